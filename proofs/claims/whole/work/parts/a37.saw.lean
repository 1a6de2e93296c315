def FX11_saw (m : AM) (p : Int) (o : Int) : Int :=
  if 0 ≤ p ∧ p < mi m 6 5 then
    if 0 ≤ o ∧ o < mi m 6 5 then
      (wsC m p o 12)
    else
      (-1)
  else
    (-1)
set_option maxRecDepth 20000 in
set_option maxHeartbeats 4000000 in
theorem ct_X11_saw {G : QW} {m : AM} (hS : St m) (hI : IM m) {p : Int} {o : Int} (hp1 : -2147483648 ≤ p) (hp2 : p < 2147483648) (ho1 : -2147483648 ≤ o) (ho2 : o < 2147483648) : qM G mX11_saw 2 0 0 [vR 0, vI p, vI o] m (fun r m' => r = some (vI (FX11_saw m p o)) ∧ m' = m) := by
  refine qM.intro okX11_saw (Nat.le_of_ble_eq_true rfl) ?_
  have h65 := hI.s 6 5 0 20 (by decide)
  refine j_aload_n rfl rfl ?_
  refine j_iload_n rfl rfl ?_
  refine j_callV (ci := 11) rfl okX11_isPaper c_X11_334 (ct_X11_isPaper hS hI (by omega) (by omega)) rfl rfl (hS.lt (by decide)) (hS.k (by decide) (by decide)) (by decide) rfl (Nat.le_of_ble_eq_true rfl) (by decide) (by decide) ?_
  rintro vq mq ⟨e1, e2⟩
  rw [e1, e2]
  clear e1 e2
  simp only [Option.toList_some, Option.toList_none, List.cons_append, List.nil_append]
  have w1 := hI.s 6 5 (0) 20 (by decide)
  refine j_bif_eq (tgt := 28) rfl (by decide) (fun hb5_1 => ?_) (fun hb5_1 => ?_)
  · skip
    refine j_iconst rfl ?_
    refine j_iret rfl rfl ?_ rfl (Nat.le_refl _)
    unfold FX11_saw
    rw [if_neg hb5_1]
    exact ⟨rfl, rfl⟩
  · skip
    refine j_aload_n rfl rfl ?_
    refine j_iload_n rfl rfl ?_
    refine j_callV (ci := 11) rfl okX11_isPaper c_X11_334 (ct_X11_isPaper hS hI (by omega) (by omega)) rfl rfl (hS.lt (by decide)) (hS.k (by decide) (by decide)) (by decide) rfl (Nat.le_of_ble_eq_true rfl) (by decide) (by decide) ?_
    rintro vq mq ⟨e1, e2⟩
    rw [e1, e2]
    clear e1 e2
    simp only [Option.toList_some, Option.toList_none, List.cons_append, List.nil_append]
    have w2 := hI.s 6 5 (0) 20 (by decide)
    refine j_bif_eq (tgt := 28) rfl (by decide) (fun hb13_1 => ?_) (fun hb13_1 => ?_)
    · skip
      refine j_iconst rfl ?_
      refine j_iret rfl rfl ?_ rfl (Nat.le_refl _)
      unfold FX11_saw
      rw [if_pos hb5_1, if_neg hb13_1]
      exact ⟨rfl, rfl⟩
    · skip
      refine j_aload_n rfl rfl ?_
      refine j_getR (q := 6) rfl f_X11_37 rfl (hS.lt (by decide)) (hS.k (by decide) (by decide)) (hS.r (by decide)) ?_
      refine j_iload_n rfl rfl ?_
      refine j_iload_n rfl rfl ?_
      refine j_callV (ci := 4) rfl okX4_whoSaw c_X11_350 (ct_whoSaw hS hI (by omega) (by omega)) rfl rfl (hS.lt (by decide)) (hS.k (by decide) (by decide)) (by decide) rfl (Nat.le_of_ble_eq_true rfl) (by decide) (by decide) ?_
      rintro vq mq ⟨e1, e2⟩
      rw [e1, e2]
      clear e1 e2
      simp only [Option.toList_some, Option.toList_none, List.cons_append, List.nil_append]
      have hws := wsC_rng m p o 12
      refine j_goto (tgt := 29) rfl (by decide) ?_
      refine j_iret rfl rfl ?_ rfl (Nat.le_refl _)
      unfold FX11_saw
      rw [if_pos hb5_1, if_pos hb13_1]
      exact ⟨rfl, rfl⟩

def FX11_sign (m : AM) (q : Int) (p : Int) (w : Int) : Int × AM :=
  if q < 0 then
    ((-1), m)
  else
    if q ≥ 12 then
      ((-1), m)
    else
      if 0 ≤ p ∧ p < mi m 6 5 then
        if w < 0 then
          ((-1), m)
        else
          if (z_ishr w (mi m 6 5)) = 0 then
            if mi m 11 ((q * 20) + p).toNat ≠ -1 then
              ((-5), m)
            else
              ((snC (si m 11 ((q * 20) + p).toNat w) p 12), (si m 11 ((q * 20) + p).toNat w))
          else
            ((-1), m)
      else
        ((-1), m)
set_option maxRecDepth 20000 in
set_option maxHeartbeats 4000000 in
theorem ct_X11_sign {G : QW} {m : AM} (hS : St m) (hI : IM m) {q : Int} {p : Int} {w : Int} (hq1 : -2147483648 ≤ q) (hq2 : q < 2147483648) (hp1 : -2147483648 ≤ p) (hp2 : p < 2147483648) (hw1 : -2147483648 ≤ w) (hw2 : w < 2147483648) : qM G mX11_sign 2 0 0 [vR 0, vI q, vI p, vI w] m (fun r m' => r = some (vI (FX11_sign m q p w).1) ∧ m' = (FX11_sign m q p w).2) := by
  refine qM.intro okX11_sign (Nat.le_of_ble_eq_true rfl) ?_
  have h65 := hI.s 6 5 0 20 (by decide)
  refine j_iload_n rfl rfl ?_
  refine j_if_lt (tgt := 34) rfl (by decide) (by omega) (by omega) (fun hb1_1 => ?_) (fun hb1_1 => ?_)
  · skip
    refine j_iconst rfl ?_
    refine j_iret rfl rfl ?_ rfl (Nat.le_refl _)
    unfold FX11_sign
    rw [if_pos hb1_1]
    exact ⟨rfl, rfl⟩
  · skip
    refine j_iload_n rfl rfl ?_
    refine j_bipush rfl (by decide) ?_
    refine j_icmp_ge (tgt := 34) rfl (by decide) (by omega) (by omega) (by omega) (by omega) (fun hb7_1 => ?_) (fun hb7_1 => ?_)
    · skip
      refine j_iconst rfl ?_
      refine j_iret rfl rfl ?_ rfl (Nat.le_refl _)
      unfold FX11_sign
      rw [if_neg hb1_1, if_pos hb7_1]
      exact ⟨rfl, rfl⟩
    · skip
      refine j_aload_n rfl rfl ?_
      refine j_iload_n rfl rfl ?_
      refine j_callV (ci := 11) rfl okX11_isPaper c_X11_334 (ct_X11_isPaper hS hI (by omega) (by omega)) rfl rfl (hS.lt (by decide)) (hS.k (by decide) (by decide)) (by decide) rfl (Nat.le_of_ble_eq_true rfl) (by decide) (by decide) ?_
      rintro vq mq ⟨e1, e2⟩
      rw [e1, e2]
      clear e1 e2
      simp only [Option.toList_some, Option.toList_none, List.cons_append, List.nil_append]
      have w1 := hI.s 6 5 (0) 20 (by decide)
      refine j_bif_eq (tgt := 34) rfl (by decide) (fun hb15_1 => ?_) (fun hb15_1 => ?_)
      · skip
        refine j_iconst rfl ?_
        refine j_iret rfl rfl ?_ rfl (Nat.le_refl _)
        unfold FX11_sign
        rw [if_neg hb1_1, if_neg hb7_1, if_neg hb15_1]
        exact ⟨rfl, rfl⟩
      · skip
        refine j_iload_n rfl rfl ?_
        refine j_if_lt (tgt := 34) rfl (by decide) (by omega) (by omega) (fun hb19_1 => ?_) (fun hb19_1 => ?_)
        · skip
          refine j_iconst rfl ?_
          refine j_iret rfl rfl ?_ rfl (Nat.le_refl _)
          unfold FX11_sign
          rw [if_neg hb1_1, if_neg hb7_1, if_pos hb15_1, if_pos hb19_1]
          exact ⟨rfl, rfl⟩
        · skip
          refine j_iload_n rfl rfl ?_
          refine j_aload_n rfl rfl ?_
          refine j_getR (q := 6) rfl f_X11_37 rfl (hS.lt (by decide)) (hS.k (by decide) (by decide)) (hS.r (by decide)) ?_
          refine j_getI rfl f_X11_324 rfl (hS.lt (by decide)) (hS.k (by decide) (by decide)) ?_
          have u27_1 := hI.s 6 5 (0) 20 (by decide)
          refine j_ishr rfl ?_
          have z30_1 := z_ishr_rng w (mi m 6 5)
          refine j_if_eq (tgt := 36) rfl (by decide) (by omega) (by omega) (fun hb31_1 => ?_) (fun hb31_1 => ?_)
          · skip
            refine j_aload_n rfl rfl ?_
            refine j_getR (q := 6) rfl f_X11_37 rfl (hS.lt (by decide)) (hS.k (by decide) (by decide)) (hS.r (by decide)) ?_
            refine j_iload_n rfl rfl ?_
            refine j_iload_n rfl rfl ?_
            refine j_callV (ci := 4) rfl okX4_hasSigned c_X11_343 (ct_X4_hasSigned hS hI (by omega) (by omega) (by omega) (by omega) (by omega) (by omega)) rfl rfl (hS.lt (by decide)) (hS.k (by decide) (by decide)) (by decide) rfl (Nat.le_of_ble_eq_true rfl) (by decide) (by decide) ?_
            rintro vq mq ⟨e1, e2⟩
            rw [e1, e2]
            clear e1 e2
            simp only [Option.toList_some, Option.toList_none, List.cons_append, List.nil_append]
            refine j_bif_eq (tgt := 51) rfl (by decide) (fun hb45_1 => ?_) (fun hb45_1 => ?_)
            · skip
              refine j_aload_n rfl rfl ?_
              refine j_getR (q := 6) rfl f_X11_37 rfl (hS.lt (by decide)) (hS.k (by decide) (by decide)) (hS.r (by decide)) ?_
              refine j_iload_n rfl rfl ?_
              refine j_iload_n rfl rfl ?_
              refine j_iload_n rfl rfl ?_
              refine j_callV (ci := 4) rfl okX4_addSignature c_X11_346 (ct_addSignature hS hI (hI.oneA (by decide) (by decide) (by decide) (by decide) (by decide) (by decide)) (by omega) (by omega) (by omega)) rfl rfl (hS.lt (by decide)) (hS.k (by decide) (by decide)) (by decide) rfl (Nat.le_of_ble_eq_true rfl) (by decide) (by decide) ?_
              rintro vq mq ⟨e1, e2⟩
              rw [e1, e2]
              clear e1 e2
              simp only [Option.toList_some, Option.toList_none, List.cons_append, List.nil_append]
              refine j_iret rfl rfl ?_ rfl (Nat.le_refl _)
              unfold FX11_sign
              rw [if_neg hb1_1, if_neg hb7_1, if_pos hb15_1, if_neg hb19_1, if_pos hb31_1, if_neg hb45_1]
              exact ⟨rfl, rfl⟩
            · skip
              refine j_bipush rfl (by decide) ?_
              refine j_iret rfl rfl ?_ rfl (Nat.le_refl _)
              unfold FX11_sign
              rw [if_neg hb1_1, if_neg hb7_1, if_pos hb15_1, if_neg hb19_1, if_pos hb31_1, if_pos hb45_1]
              exact ⟨rfl, rfl⟩
          · skip
            refine j_iconst rfl ?_
            refine j_iret rfl rfl ?_ rfl (Nat.le_refl _)
            unfold FX11_sign
            rw [if_neg hb1_1, if_neg hb7_1, if_pos hb15_1, if_neg hb19_1, if_neg hb31_1]
            exact ⟨rfl, rfl⟩

def FX11_paper (m : AM) (sort : Int) (k : Int) (v : Int) (on : Int) : Int × AM :=
  if (sort = 0 ∧ 0 ≤ k ∧ k ≤ 2 ∧ 0 ≤ v ∧ v ≤ 99999) ∨ (¬ (sort = 0 ∧ 0 ≤ k ∧ k ≤ 2) ∧ 10 ≤ k ∧ k - 10 < mi m 0 16 ∧ (sort = 0 ∨ (sort = 1 ∧ 0 ≤ v ∧ v / 100 < mi m 0 17 ∧ 0 < v % 100))) then
    if on < 0 then
      ((-1), m)
    else
      if (on / 100) = 99 ∨ (0 ≤ (on / 100) ∧ (on / 100) < mi m 6 5) then
        if (on % 100) = 99 ∨ (0 ≤ (on % 100) ∧ (on % 100) < mi m 6 5) then
          if (mi m 6 5) ≠ 20 then
            ((FX4_write m sort k v (z_ior (FX4_alongOf m (on / 100)) (FX4_alongOf m (on % 100)))).1, (FX4_write m sort k v (z_ior (FX4_alongOf m (on / 100)) (FX4_alongOf m (on % 100)))).2)
          else
            ((-3), m)
        else
          ((-1), m)
      else
        ((-1), m)
  else
    ((-1), m)
set_option maxRecDepth 20000 in
set_option maxHeartbeats 4000000 in
theorem ct_X11_paper {G : QW} {m : AM} (hS : St m) (hI : IM m) {sort : Int} {k : Int} {v : Int} {on : Int} (hsort1 : -2147483648 ≤ sort) (hsort2 : sort < 2147483648) (hk1 : -2147483648 ≤ k) (hk2 : k < 2147483648) (hv1 : -2147483648 ≤ v) (hv2 : v < 2147483648) (hon1 : -2147483648 ≤ on) (hon2 : on < 2147483648) : qM G mX11_paper 2 0 0 [vR 0, vI sort, vI k, vI v, vI on] m (fun r m' => r = some (vI (FX11_paper m sort k v on).1) ∧ m' = (FX11_paper m sort k v on).2) := by
  refine qM.intro okX11_paper (Nat.le_of_ble_eq_true rfl) ?_
  have h65 := hI.s 6 5 0 20 (by decide)
  refine j_aload_n rfl rfl ?_
  refine j_iload_n rfl rfl ?_
  refine j_iload_n rfl rfl ?_
  refine j_iload_n rfl rfl ?_
  refine j_callV (ci := 11) rfl okX11_isClaim c_X11_317 (ct_X11_isClaim hS hI (by omega) (by omega) (by omega) (by omega) (by omega) (by omega)) rfl rfl (hS.lt (by decide)) (hS.k (by decide) (by decide)) (by decide) rfl (Nat.le_of_ble_eq_true rfl) (by decide) (by decide) ?_
  rintro vq mq ⟨e1, e2⟩
  rw [e1, e2]
  clear e1 e2
  simp only [Option.toList_some, Option.toList_none, List.cons_append, List.nil_append]
  have w1 := hI.s 0 16 (0) 6 (by decide)
  have w2 := hI.s 0 17 (0) 8 (by decide)
  refine j_bif_eq (tgt := 39) rfl (by decide) (fun hb7_1 => ?_) (fun hb7_1 => ?_)
  · skip
    refine j_iconst rfl ?_
    refine j_iret rfl rfl ?_ rfl (Nat.le_refl _)
    unfold FX11_paper
    rw [if_neg hb7_1]
    exact ⟨rfl, rfl⟩
  · skip
    refine j_iload rfl rfl ?_
    refine j_if_lt (tgt := 39) rfl (by decide) (by omega) (by omega) (fun hb12_1 => ?_) (fun hb12_1 => ?_)
    · skip
      refine j_iconst rfl ?_
      refine j_iret rfl rfl ?_ rfl (Nat.le_refl _)
      unfold FX11_paper
      rw [if_pos hb7_1, if_pos hb12_1]
      exact ⟨rfl, rfl⟩
    · skip
      refine j_aload_n rfl rfl ?_
      refine j_iload rfl rfl ?_
      refine j_bipush rfl (by decide) ?_
      refine j_idivN rfl (by omega) (by omega) (by omega) (by omega) ?_
      refine j_callV (ci := 11) rfl okX11_isGround c_X11_321 (ct_X11_isGround hS hI (by omega) (by omega)) rfl rfl (hS.lt (by decide)) (hS.k (by decide) (by decide)) (by decide) rfl (Nat.le_of_ble_eq_true rfl) (by decide) (by decide) ?_
      rintro vq mq ⟨e1, e2⟩
      rw [e1, e2]
      clear e1 e2
      simp only [Option.toList_some, Option.toList_none, List.cons_append, List.nil_append]
      have w3 := hI.s 6 5 (0) 20 (by decide)
      refine j_bif_eq (tgt := 39) rfl (by decide) (fun hb24_1 => ?_) (fun hb24_1 => ?_)
      · skip
        refine j_iconst rfl ?_
        refine j_iret rfl rfl ?_ rfl (Nat.le_refl _)
        unfold FX11_paper
        rw [if_pos hb7_1, if_neg hb12_1, if_neg hb24_1]
        exact ⟨rfl, rfl⟩
      · skip
        refine j_aload_n rfl rfl ?_
        refine j_iload rfl rfl ?_
        refine j_bipush rfl (by decide) ?_
        refine j_iremN rfl (by omega) (by omega) (by omega) (by omega) ?_
        refine j_callV (ci := 11) rfl okX11_isGround c_X11_321 (ct_X11_isGround hS hI (by omega) (by omega)) rfl rfl (hS.lt (by decide)) (hS.k (by decide) (by decide)) (by decide) rfl (Nat.le_of_ble_eq_true rfl) (by decide) (by decide) ?_
        rintro vq mq ⟨e1, e2⟩
        rw [e1, e2]
        clear e1 e2
        simp only [Option.toList_some, Option.toList_none, List.cons_append, List.nil_append]
        have w4 := hI.s 6 5 (0) 20 (by decide)
        refine j_bif_ne (tgt := 41) rfl (by decide) (fun hb36_1 => ?_) (fun hb36_1 => ?_)
        · skip
          refine j_aload_n rfl rfl ?_
          refine j_getR (q := 6) rfl f_X11_37 rfl (hS.lt (by decide)) (hS.k (by decide) (by decide)) (hS.r (by decide)) ?_
          refine j_getI rfl f_X11_324 rfl (hS.lt (by decide)) (hS.k (by decide) (by decide)) ?_
          have u45_1 := hI.s 6 5 (0) 20 (by decide)
          refine j_bipush rfl (by decide) ?_
          refine j_icmp_ne (tgt := 56) rfl (by decide) (by omega) (by omega) (by omega) (by omega) (fun hb50_1 => ?_) (fun hb50_1 => ?_)
          · skip
            refine j_aload_n rfl rfl ?_
            refine j_getR (q := 6) rfl f_X11_37 rfl (hS.lt (by decide)) (hS.k (by decide) (by decide)) (hS.r (by decide)) ?_
            refine j_iload_n rfl rfl ?_
            refine j_iload_n rfl rfl ?_
            refine j_iload_n rfl rfl ?_
            refine j_aload_n rfl rfl ?_
            refine j_getR (q := 6) rfl f_X11_37 rfl (hS.lt (by decide)) (hS.k (by decide) (by decide)) (hS.r (by decide)) ?_
            refine j_iload rfl rfl ?_
            refine j_bipush rfl (by decide) ?_
            refine j_idivN rfl (by omega) (by omega) (by omega) (by omega) ?_
            refine j_callV (ci := 4) rfl okX4_alongOf c_X11_327 (ct_X4_alongOf hS hI (by omega) (by omega)) rfl rfl (hS.lt (by decide)) (hS.k (by decide) (by decide)) (by decide) rfl (Nat.le_of_ble_eq_true rfl) (by decide) (by decide) ?_
            rintro vq mq ⟨e1, e2⟩
            rw [e1, e2]
            clear e1 e2
            simp only [Option.toList_some, Option.toList_none, List.cons_append, List.nil_append]
            refine j_aload_n rfl rfl ?_
            refine j_getR (q := 6) rfl f_X11_37 rfl (hS.lt (by decide)) (hS.k (by decide) (by decide)) (hS.r (by decide)) ?_
            refine j_iload rfl rfl ?_
            refine j_bipush rfl (by decide) ?_
            refine j_iremN rfl (by omega) (by omega) (by omega) (by omega) ?_
            refine j_callV (ci := 4) rfl okX4_alongOf c_X11_327 (ct_X4_alongOf hS hI (by omega) (by omega)) rfl rfl (hS.lt (by decide)) (hS.k (by decide) (by decide)) (by decide) rfl (Nat.le_of_ble_eq_true rfl) (by decide) (by decide) ?_
            rintro vq mq ⟨e1, e2⟩
            rw [e1, e2]
            clear e1 e2
            simp only [Option.toList_some, Option.toList_none, List.cons_append, List.nil_append]
            refine j_ior rfl ?_
            have z87_1 := z_ior_rng (FX4_alongOf m (on / 100)) (FX4_alongOf m (on % 100))
            refine j_callV (ci := 4) rfl okX4_write c_X11_330 (ct_X4_write hS hI (by omega) (by omega) (by omega) (by omega) (by omega) (by omega) (by omega) (by omega) (by omega)) rfl rfl (hS.lt (by decide)) (hS.k (by decide) (by decide)) (by decide) rfl (Nat.le_of_ble_eq_true rfl) (by decide) (by decide) ?_
            rintro vq mq ⟨e1, e2⟩
            rw [e1, e2]
            clear e1 e2
            simp only [Option.toList_some, Option.toList_none, List.cons_append, List.nil_append]
            refine j_iret rfl rfl ?_ rfl (Nat.le_refl _)
            unfold FX11_paper
            rw [if_pos hb7_1, if_neg hb12_1, if_pos hb24_1, if_pos hb36_1, if_pos hb50_1]
            exact ⟨rfl, rfl⟩
          · skip
            refine j_bipush rfl (by decide) ?_
            refine j_iret rfl rfl ?_ rfl (Nat.le_refl _)
            unfold FX11_paper
            rw [if_pos hb7_1, if_neg hb12_1, if_pos hb24_1, if_pos hb36_1, if_neg (not_not_intro hb50_1)]
            exact ⟨rfl, rfl⟩
        · skip
          refine j_iconst rfl ?_
          refine j_iret rfl rfl ?_ rfl (Nat.le_refl _)
          unfold FX11_paper
          rw [if_pos hb7_1, if_neg hb12_1, if_pos hb24_1, if_neg hb36_1]
          exact ⟨rfl, rfl⟩


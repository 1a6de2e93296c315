def FX8_setEnds (m : AM) (at0 : Int) (a : Int) (b : Int) (c : Int) (d : Int) : AM :=
  (FX8_set m at0 (FJ9_min_f86c9 m (FJ9_min_f86c9 m a b) (FJ9_min_f86c9 m c d)) (FJ9_max_f86c9 m (FJ9_max_f86c9 m a b) (FJ9_max_f86c9 m c d)))
set_option maxRecDepth 20000 in
set_option maxHeartbeats 4000000 in
theorem ct_X8_setEnds {G : QW} {m : AM} (hS : St m) (hI : IM m) {at0 : Int} {a : Int} {b : Int} {c : Int} {d : Int} (hat01 : -2147483648 ≤ at0) (hat02 : at0 < 2147483648) (h3 : 0 ≤ at0) (h4 : at0 ≤ 159) (ha : (-9000000000000000000 ≤ a ∧ a ≤ 9000000000000000000)) (hb : (-9000000000000000000 ≤ b ∧ b ≤ 9000000000000000000)) (hc : (-9000000000000000000 ≤ c ∧ c ≤ 9000000000000000000)) (hd : (-9000000000000000000 ≤ d ∧ d ≤ 9000000000000000000)) : qM G mX8_setEnds 1 0 0 [vR 12, vI at0, vL a, vL b, vL c, vL d] m (fun r m' => r = none ∧ m' = FX8_setEnds m at0 a b c d) := by
  refine qM.intro okX8_setEnds (Nat.le_of_ble_eq_true rfl) ?_
  refine j_aload_n rfl rfl ?_
  refine j_iload_n rfl rfl ?_
  refine j_lload_n rfl rfl ?_
  refine j_lload rfl rfl ?_
  refine j_callS (As := [_, _]) rfl okJ9_min_f86c9 c_X8_115 (ct_J9_min_f86c9 (by omega) (by omega) (by omega) (by omega)) rfl rfl (Nat.le_of_ble_eq_true rfl) (by decide) (by decide) ?_
  rintro vq mq ⟨e1, e2⟩
  rw [e1, e2]
  clear e1 e2
  simp only [Option.toList_some, Option.toList_none, List.cons_append, List.nil_append]
  have hmn := minL_rng m a b
  refine j_lload rfl rfl ?_
  refine j_lload rfl rfl ?_
  refine j_callS (As := [_, _]) rfl okJ9_min_f86c9 c_X8_115 (ct_J9_min_f86c9 (by omega) (by omega) (by omega) (by omega)) rfl rfl (Nat.le_of_ble_eq_true rfl) (by decide) (by decide) ?_
  rintro vq mq ⟨e1, e2⟩
  rw [e1, e2]
  clear e1 e2
  simp only [Option.toList_some, Option.toList_none, List.cons_append, List.nil_append]
  have hmn := minL_rng m c d
  refine j_callS (As := [_, _]) rfl okJ9_min_f86c9 c_X8_115 (ct_J9_min_f86c9 (by omega) (by omega) (by omega) (by omega)) rfl rfl (Nat.le_of_ble_eq_true rfl) (by decide) (by decide) ?_
  rintro vq mq ⟨e1, e2⟩
  rw [e1, e2]
  clear e1 e2
  simp only [Option.toList_some, Option.toList_none, List.cons_append, List.nil_append]
  have hmn := minL_rng m (FJ9_min_f86c9 m a b) (FJ9_min_f86c9 m c d)
  refine j_lload_n rfl rfl ?_
  refine j_lload rfl rfl ?_
  refine j_callS (As := [_, _]) rfl okJ9_max_f86c9 c_X8_111 (ct_J9_max_f86c9 (by omega) (by omega) (by omega) (by omega)) rfl rfl (Nat.le_of_ble_eq_true rfl) (by decide) (by decide) ?_
  rintro vq mq ⟨e1, e2⟩
  rw [e1, e2]
  clear e1 e2
  simp only [Option.toList_some, Option.toList_none, List.cons_append, List.nil_append]
  have hmx := maxL_rng m a b
  refine j_lload rfl rfl ?_
  refine j_lload rfl rfl ?_
  refine j_callS (As := [_, _]) rfl okJ9_max_f86c9 c_X8_111 (ct_J9_max_f86c9 (by omega) (by omega) (by omega) (by omega)) rfl rfl (Nat.le_of_ble_eq_true rfl) (by decide) (by decide) ?_
  rintro vq mq ⟨e1, e2⟩
  rw [e1, e2]
  clear e1 e2
  simp only [Option.toList_some, Option.toList_none, List.cons_append, List.nil_append]
  have hmx := maxL_rng m c d
  refine j_callS (As := [_, _]) rfl okJ9_max_f86c9 c_X8_111 (ct_J9_max_f86c9 (by omega) (by omega) (by omega) (by omega)) rfl rfl (Nat.le_of_ble_eq_true rfl) (by decide) (by decide) ?_
  rintro vq mq ⟨e1, e2⟩
  rw [e1, e2]
  clear e1 e2
  simp only [Option.toList_some, Option.toList_none, List.cons_append, List.nil_append]
  have hmx := maxL_rng m (FJ9_max_f86c9 m a b) (FJ9_max_f86c9 m c d)
  refine j_callV (ci := 8) rfl okX8_set c_X8_78 (ct_X8_set hS hI (by omega) (by omega) (by omega) (by omega) (by omega) (by omega) (by omega) (by omega)) rfl rfl (hS.lt (by decide)) (hS.k (by decide) (by decide)) (by decide) rfl (Nat.le_of_ble_eq_true rfl) (by decide) (by decide) ?_
  rintro vq mq ⟨e1, e2⟩
  rw [e1, e2]
  clear e1 e2
  simp only [Option.toList_some, Option.toList_none, List.cons_append, List.nil_append]
  refine j_vret rfl rfl ?_ rfl (Nat.le_refl _)
  unfold FX8_setEnds
  exact ⟨rfl, rfl⟩

def FX11_span (m : AM) (f : Int) (lo : Int) (hi : Int) : Int × AM :=
  if f < 0 then
    ((-1), m)
  else
    if (f / 10) ≥ 2 then
      ((-1), m)
    else
      if (f % 10) ≥ 3 then
        ((-1), m)
      else
        if lo ≤ hi then
          if -99999 ≤ lo ∧ lo ≤ 99999 then
            if -99999 ≤ hi ∧ hi ≤ 99999 then
              (1, (FX8_tell m (f / 10) (f % 10) lo hi))
            else
              ((-1), m)
          else
            ((-1), m)
        else
          ((-1), m)
set_option maxRecDepth 20000 in
set_option maxHeartbeats 4000000 in
theorem ct_X11_span {G : QW} {m : AM} (hS : St m) (hI : IM m) {f : Int} {lo : Int} {hi : Int} (hf1 : -2147483648 ≤ f) (hf2 : f < 2147483648) (hlo1 : -2147483648 ≤ lo) (hlo2 : lo < 2147483648) (hhi1 : -2147483648 ≤ hi) (hhi2 : hi < 2147483648) : qM G mX11_span 1 0 0 [vR 0, vI f, vI lo, vI hi] m (fun r m' => r = some (vI (FX11_span m f lo hi).1) ∧ m' = (FX11_span m f lo hi).2) := by
  refine qM.intro okX11_span (Nat.le_of_ble_eq_true rfl) ?_
  refine j_iload_n rfl rfl ?_
  refine j_if_lt (tgt := 25) rfl (by decide) (by omega) (by omega) (fun hb1_1 => ?_) (fun hb1_1 => ?_)
  · skip
    refine j_iconst rfl ?_
    refine j_iret rfl rfl ?_ rfl (Nat.le_refl _)
    unfold FX11_span
    rw [if_pos hb1_1]
    exact ⟨rfl, rfl⟩
  · skip
    refine j_iload_n rfl rfl ?_
    refine j_bipush rfl (by decide) ?_
    refine j_idivN rfl (by omega) (by omega) (by omega) (by omega) ?_
    refine j_iconst rfl ?_
    refine j_icmp_ge (tgt := 25) rfl (by decide) (by omega) (by omega) (by omega) (by omega) (fun hb9_1 => ?_) (fun hb9_1 => ?_)
    · skip
      refine j_iconst rfl ?_
      refine j_iret rfl rfl ?_ rfl (Nat.le_refl _)
      unfold FX11_span
      rw [if_neg hb1_1, if_pos hb9_1]
      exact ⟨rfl, rfl⟩
    · skip
      refine j_iload_n rfl rfl ?_
      refine j_bipush rfl (by decide) ?_
      refine j_iremN rfl (by omega) (by omega) (by omega) (by omega) ?_
      refine j_iconst rfl ?_
      refine j_icmp_ge (tgt := 25) rfl (by decide) (by omega) (by omega) (by omega) (by omega) (fun hb17_1 => ?_) (fun hb17_1 => ?_)
      · skip
        refine j_iconst rfl ?_
        refine j_iret rfl rfl ?_ rfl (Nat.le_refl _)
        unfold FX11_span
        rw [if_neg hb1_1, if_neg hb9_1, if_pos hb17_1]
        exact ⟨rfl, rfl⟩
      · skip
        refine j_iload_n rfl rfl ?_
        refine j_iload_n rfl rfl ?_
        refine j_icmp_le (tgt := 27) rfl (by decide) (by omega) (by omega) (by omega) (by omega) (fun hb22_1 => ?_) (fun hb22_1 => ?_)
        · skip
          refine j_iload_n rfl rfl ?_
          refine j_ldc (v := 99999) rfl k_X11_162 ?_
          refine j_callS (As := [_, _]) rfl okX11_isWithin c_X11_163 (ct_X11_isWithin (by omega) (by omega) (by omega) (by omega) (by omega)) rfl rfl (Nat.le_of_ble_eq_true rfl) (by decide) (by decide) ?_
          rintro vq mq ⟨e1, e2⟩
          rw [e1, e2]
          clear e1 e2
          simp only [Option.toList_some, Option.toList_none, List.cons_append, List.nil_append]
          refine j_bif_eq (tgt := 45) rfl (by decide) (fun hb33_1 => ?_) (fun hb33_1 => ?_)
          · skip
            refine j_iconst rfl ?_
            refine j_iret rfl rfl ?_ rfl (Nat.le_refl _)
            unfold FX11_span
            rw [if_neg hb1_1, if_neg hb9_1, if_neg hb17_1, if_pos hb22_1, if_neg hb33_1]
            exact ⟨rfl, rfl⟩
          · skip
            refine j_iload_n rfl rfl ?_
            refine j_ldc (v := 99999) rfl k_X11_162 ?_
            refine j_callS (As := [_, _]) rfl okX11_isWithin c_X11_163 (ct_X11_isWithin (by omega) (by omega) (by omega) (by omega) (by omega)) rfl rfl (Nat.le_of_ble_eq_true rfl) (by decide) (by decide) ?_
            rintro vq mq ⟨e1, e2⟩
            rw [e1, e2]
            clear e1 e2
            simp only [Option.toList_some, Option.toList_none, List.cons_append, List.nil_append]
            refine j_bif_ne (tgt := 47) rfl (by decide) (fun hb42_1 => ?_) (fun hb42_1 => ?_)
            · skip
              refine j_aload_n rfl rfl ?_
              refine j_getR (q := 12) rfl f_X11_44 rfl (hS.lt (by decide)) (hS.k (by decide) (by decide)) (hS.r (by decide)) ?_
              refine j_iload_n rfl rfl ?_
              refine j_bipush rfl (by decide) ?_
              refine j_idivN rfl (by omega) (by omega) (by omega) (by omega) ?_
              refine j_iload_n rfl rfl ?_
              refine j_bipush rfl (by decide) ?_
              refine j_iremN rfl (by omega) (by omega) (by omega) (by omega) ?_
              refine j_iload_n rfl rfl ?_
              refine j_iload_n rfl rfl ?_
              refine j_callV (ci := 8) rfl okX8_tell c_X11_228 (ct_X8_tell hS hI (by omega) (by omega) (by omega) (by omega) (by omega) (by omega) (by omega) (by omega) (by omega) (by omega) (by omega) (by omega)) rfl rfl (hS.lt (by decide)) (hS.k (by decide) (by decide)) (by decide) rfl (Nat.le_of_ble_eq_true rfl) (by decide) (by decide) ?_
              rintro vq mq ⟨e1, e2⟩
              rw [e1, e2]
              clear e1 e2
              simp only [Option.toList_some, Option.toList_none, List.cons_append, List.nil_append]
              refine j_iconst rfl ?_
              refine j_iret rfl rfl ?_ rfl (Nat.le_refl _)
              unfold FX11_span
              rw [if_neg hb1_1, if_neg hb9_1, if_neg hb17_1, if_pos hb22_1, if_pos hb33_1, if_pos hb42_1]
              exact ⟨rfl, rfl⟩
            · skip
              refine j_iconst rfl ?_
              refine j_iret rfl rfl ?_ rfl (Nat.le_refl _)
              unfold FX11_span
              rw [if_neg hb1_1, if_neg hb9_1, if_neg hb17_1, if_pos hb22_1, if_pos hb33_1, if_neg hb42_1]
              exact ⟨rfl, rfl⟩
        · skip
          refine j_iconst rfl ?_
          refine j_iret rfl rfl ?_ rfl (Nat.le_refl _)
          unfold FX11_span
          rw [if_neg hb1_1, if_neg hb9_1, if_neg hb17_1, if_neg hb22_1]
          exact ⟨rfl, rfl⟩


set_option maxRecDepth 20000 in
set_option maxHeartbeats 4000000 in
theorem ct_X12_in {G : QW} {m : AM} {v : Int} {low : Int} {high : Int} (hv1 : -2147483648 ≤ v) (hv2 : v < 2147483648) (hlow1 : -2147483648 ≤ low) (hlow2 : low < 2147483648) (hhigh1 : -2147483648 ≤ high) (hhigh2 : high < 2147483648) : qM G mX12_in 0 0 0 [vI v, vI low, vI high] m (fun r m' => r = some (vI (if low ≤ v ∧ v ≤ high then 1 else 0)) ∧ m' = m) := by
  refine qM.intro okX12_in (Nat.le_of_ble_eq_true rfl) ?_
  refine j_iload_n rfl rfl ?_
  refine j_iload_n rfl rfl ?_
  refine j_icmp_lt (tgt := 14) rfl (by decide) (by omega) (by omega) (by omega) (by omega) (fun hb2_1 => ?_) (fun hb2_1 => ?_)
  · skip
    refine j_iconst rfl ?_
    refine j_zret rfl rfl (by decide) ?_ rfl (Nat.le_refl _)
    exact ⟨by first | (rw [if_pos (by omega)]; done) | (rw [if_neg (by omega)]; done) | (exfalso; omega), rfl⟩
  · skip
    refine j_iload_n rfl rfl ?_
    refine j_iload_n rfl rfl ?_
    refine j_icmp_gt (tgt := 14) rfl (by decide) (by omega) (by omega) (by omega) (by omega) (fun hb7_1 => ?_) (fun hb7_1 => ?_)
    · skip
      refine j_iconst rfl ?_
      refine j_zret rfl rfl (by decide) ?_ rfl (Nat.le_refl _)
      exact ⟨by first | (rw [if_pos (by omega)]; done) | (rw [if_neg (by omega)]; done) | (exfalso; omega), rfl⟩
    · skip
      refine j_iconst rfl ?_
      refine j_goto (tgt := 15) rfl (by decide) ?_
      refine j_zret rfl rfl (by decide) ?_ rfl (Nat.le_refl _)
      exact ⟨by first | (rw [if_pos (by omega)]; done) | (rw [if_neg (by omega)]; done) | (exfalso; omega), rfl⟩

set_option maxRecDepth 20000 in
set_option maxHeartbeats 4000000 in
theorem ct_X12_isTicks {G : QW} {m : AM} {n : Int} (hn1 : -2147483648 ≤ n) (hn2 : n < 2147483648) : qM G mX12_isTicks 1 0 0 [vI n] m (fun r m' => r = some (vI (if 1 ≤ n ∧ n ≤ 200 then 1 else 0)) ∧ m' = m) := by
  refine qM.intro okX12_isTicks (Nat.le_of_ble_eq_true rfl) ?_
  refine j_iload_n rfl rfl ?_
  refine j_iconst rfl ?_
  refine j_sipush rfl (by decide) ?_
  refine j_callS (As := [_, _, _]) rfl okX12_in c_X12_194 (ct_X12_in (by omega) (by omega) (by omega) (by omega) (by omega) (by omega)) rfl rfl (Nat.le_of_ble_eq_true rfl) (by decide) (by decide) ?_
  rintro vq mq ⟨e1, e2⟩
  rw [e1, e2]
  clear e1 e2
  simp only [Option.toList_some, Option.toList_none, List.cons_append, List.nil_append]
  refine j_zret rfl rfl (by split <;> decide) ?_ rfl (Nat.le_refl _)
  exact ⟨congrArg some (congrArg vI (qite (by omega))), rfl⟩

set_option maxRecDepth 20000 in
set_option maxHeartbeats 4000000 in
theorem ct_X12_isMachine {G : QW} {m : AM} {n : Int} (hn1 : -2147483648 ≤ n) (hn2 : n < 2147483648) : qM G mX12_isMachine 1 0 0 [vI n] m (fun r m' => r = some (vI (if 0 ≤ n ∧ n ≤ 1 then 1 else 0)) ∧ m' = m) := by
  refine qM.intro okX12_isMachine (Nat.le_of_ble_eq_true rfl) ?_
  refine j_iload_n rfl rfl ?_
  refine j_iconst rfl ?_
  refine j_iconst rfl ?_
  refine j_callS (As := [_, _, _]) rfl okX12_in c_X12_194 (ct_X12_in (by omega) (by omega) (by omega) (by omega) (by omega) (by omega)) rfl rfl (Nat.le_of_ble_eq_true rfl) (by decide) (by decide) ?_
  rintro vq mq ⟨e1, e2⟩
  rw [e1, e2]
  clear e1 e2
  simp only [Option.toList_some, Option.toList_none, List.cons_append, List.nil_append]
  refine j_zret rfl rfl (by split <;> decide) ?_ rfl (Nat.le_refl _)
  exact ⟨congrArg some (congrArg vI (qite (by omega))), rfl⟩

set_option maxRecDepth 20000 in
set_option maxHeartbeats 4000000 in
theorem ct_X12_isPerson {G : QW} {m : AM} {n : Int} (hn1 : -2147483648 ≤ n) (hn2 : n < 2147483648) : qM G mX12_isPerson 1 0 0 [vI n] m (fun r m' => r = some (vI (if 0 ≤ n ∧ n ≤ 11 then 1 else 0)) ∧ m' = m) := by
  refine qM.intro okX12_isPerson (Nat.le_of_ble_eq_true rfl) ?_
  refine j_iload_n rfl rfl ?_
  refine j_iconst rfl ?_
  refine j_bipush rfl (by decide) ?_
  refine j_callS (As := [_, _, _]) rfl okX12_in c_X12_194 (ct_X12_in (by omega) (by omega) (by omega) (by omega) (by omega) (by omega)) rfl rfl (Nat.le_of_ble_eq_true rfl) (by decide) (by decide) ?_
  rintro vq mq ⟨e1, e2⟩
  rw [e1, e2]
  clear e1 e2
  simp only [Option.toList_some, Option.toList_none, List.cons_append, List.nil_append]
  refine j_zret rfl rfl (by split <;> decide) ?_ rfl (Nat.le_refl _)
  exact ⟨congrArg some (congrArg vI (qite (by omega))), rfl⟩

set_option maxRecDepth 20000 in
set_option maxHeartbeats 4000000 in
theorem ct_X12_isShelf {G : QW} {m : AM} {n : Int} (hn1 : -2147483648 ≤ n) (hn2 : n < 2147483648) : qM G mX12_isShelf 1 0 0 [vI n] m (fun r m' => r = some (vI (if 0 ≤ n ∧ n ≤ 5 then 1 else 0)) ∧ m' = m) := by
  refine qM.intro okX12_isShelf (Nat.le_of_ble_eq_true rfl) ?_
  refine j_iload_n rfl rfl ?_
  refine j_iconst rfl ?_
  refine j_iconst rfl ?_
  refine j_callS (As := [_, _, _]) rfl okX12_in c_X12_194 (ct_X12_in (by omega) (by omega) (by omega) (by omega) (by omega) (by omega)) rfl rfl (Nat.le_of_ble_eq_true rfl) (by decide) (by decide) ?_
  rintro vq mq ⟨e1, e2⟩
  rw [e1, e2]
  clear e1 e2
  simp only [Option.toList_some, Option.toList_none, List.cons_append, List.nil_append]
  refine j_zret rfl rfl (by split <;> decide) ?_ rfl (Nat.le_refl _)
  exact ⟨congrArg some (congrArg vI (qite (by omega))), rfl⟩

set_option maxRecDepth 20000 in
set_option maxHeartbeats 4000000 in
theorem ct_X11_isMachine {G : QW} {m : AM} {n : Int} (hn1 : -2147483648 ≤ n) (hn2 : n < 2147483648) : qM G mX11_isMachine 0 0 0 [vI n] m (fun r m' => r = some (vI (if 0 ≤ n ∧ n ≤ 1 then 1 else 0)) ∧ m' = m) := by
  refine qM.intro okX11_isMachine (Nat.le_of_ble_eq_true rfl) ?_
  refine j_iload_n rfl rfl ?_
  refine j_if_lt (tgt := 13) rfl (by decide) (by omega) (by omega) (fun hb1_1 => ?_) (fun hb1_1 => ?_)
  · skip
    refine j_iconst rfl ?_
    refine j_zret rfl rfl (by decide) ?_ rfl (Nat.le_refl _)
    exact ⟨by first | (rw [if_pos (by omega)]; done) | (rw [if_neg (by omega)]; done) | (exfalso; omega), rfl⟩
  · skip
    refine j_iload_n rfl rfl ?_
    refine j_iconst rfl ?_
    refine j_icmp_ge (tgt := 13) rfl (by decide) (by omega) (by omega) (by omega) (by omega) (fun hb6_1 => ?_) (fun hb6_1 => ?_)
    · skip
      refine j_iconst rfl ?_
      refine j_zret rfl rfl (by decide) ?_ rfl (Nat.le_refl _)
      exact ⟨by first | (rw [if_pos (by omega)]; done) | (rw [if_neg (by omega)]; done) | (exfalso; omega), rfl⟩
    · skip
      refine j_iconst rfl ?_
      refine j_goto (tgt := 14) rfl (by decide) ?_
      refine j_zret rfl rfl (by decide) ?_ rfl (Nat.le_refl _)
      exact ⟨by first | (rw [if_pos (by omega)]; done) | (rw [if_neg (by omega)]; done) | (exfalso; omega), rfl⟩

set_option maxRecDepth 20000 in
set_option maxHeartbeats 4000000 in
theorem ct_X11_isTick {G : QW} {m : AM} {n : Int} (hn1 : -2147483648 ≤ n) (hn2 : n < 2147483648) : qM G mX11_isTick 0 0 0 [vI n] m (fun r m' => r = some (vI (if 0 ≤ n ∧ n ≤ 199 then 1 else 0)) ∧ m' = m) := by
  refine qM.intro okX11_isTick (Nat.le_of_ble_eq_true rfl) ?_
  refine j_iload_n rfl rfl ?_
  refine j_if_lt (tgt := 15) rfl (by decide) (by omega) (by omega) (fun hb1_1 => ?_) (fun hb1_1 => ?_)
  · skip
    refine j_iconst rfl ?_
    refine j_zret rfl rfl (by decide) ?_ rfl (Nat.le_refl _)
    exact ⟨by first | (rw [if_pos (by omega)]; done) | (rw [if_neg (by omega)]; done) | (exfalso; omega), rfl⟩
  · skip
    refine j_iload_n rfl rfl ?_
    refine j_sipush rfl (by decide) ?_
    refine j_icmp_ge (tgt := 15) rfl (by decide) (by omega) (by omega) (by omega) (by omega) (fun hb8_1 => ?_) (fun hb8_1 => ?_)
    · skip
      refine j_iconst rfl ?_
      refine j_zret rfl rfl (by decide) ?_ rfl (Nat.le_refl _)
      exact ⟨by first | (rw [if_pos (by omega)]; done) | (rw [if_neg (by omega)]; done) | (exfalso; omega), rfl⟩
    · skip
      refine j_iconst rfl ?_
      refine j_goto (tgt := 16) rfl (by decide) ?_
      refine j_zret rfl rfl (by decide) ?_ rfl (Nat.le_refl _)
      exact ⟨by first | (rw [if_pos (by omega)]; done) | (rw [if_neg (by omega)]; done) | (exfalso; omega), rfl⟩

set_option maxRecDepth 20000 in
set_option maxHeartbeats 4000000 in
theorem ct_X11_isTicks {G : QW} {m : AM} {n : Int} (hn1 : -2147483648 ≤ n) (hn2 : n < 2147483648) : qM G mX11_isTicks 0 0 0 [vI n] m (fun r m' => r = some (vI (if 1 ≤ n ∧ n ≤ 200 then 1 else 0)) ∧ m' = m) := by
  refine qM.intro okX11_isTicks (Nat.le_of_ble_eq_true rfl) ?_
  refine j_iload_n rfl rfl ?_
  refine j_iconst rfl ?_
  refine j_icmp_lt (tgt := 16) rfl (by decide) (by omega) (by omega) (by omega) (by omega) (fun hb2_1 => ?_) (fun hb2_1 => ?_)
  · skip
    refine j_iconst rfl ?_
    refine j_zret rfl rfl (by decide) ?_ rfl (Nat.le_refl _)
    exact ⟨by first | (rw [if_pos (by omega)]; done) | (rw [if_neg (by omega)]; done) | (exfalso; omega), rfl⟩
  · skip
    refine j_iload_n rfl rfl ?_
    refine j_sipush rfl (by decide) ?_
    refine j_icmp_gt (tgt := 16) rfl (by decide) (by omega) (by omega) (by omega) (by omega) (fun hb9_1 => ?_) (fun hb9_1 => ?_)
    · skip
      refine j_iconst rfl ?_
      refine j_zret rfl rfl (by decide) ?_ rfl (Nat.le_refl _)
      exact ⟨by first | (rw [if_pos (by omega)]; done) | (rw [if_neg (by omega)]; done) | (exfalso; omega), rfl⟩
    · skip
      refine j_iconst rfl ?_
      refine j_goto (tgt := 17) rfl (by decide) ?_
      refine j_zret rfl rfl (by decide) ?_ rfl (Nat.le_refl _)
      exact ⟨by first | (rw [if_pos (by omega)]; done) | (rw [if_neg (by omega)]; done) | (exfalso; omega), rfl⟩

set_option maxRecDepth 20000 in
set_option maxHeartbeats 4000000 in
theorem ct_X11_isShelf {G : QW} {m : AM} {n : Int} (hn1 : -2147483648 ≤ n) (hn2 : n < 2147483648) : qM G mX11_isShelf 0 0 0 [vI n] m (fun r m' => r = some (vI (if 0 ≤ n ∧ n ≤ 5 then 1 else 0)) ∧ m' = m) := by
  refine qM.intro okX11_isShelf (Nat.le_of_ble_eq_true rfl) ?_
  refine j_iload_n rfl rfl ?_
  refine j_if_lt (tgt := 14) rfl (by decide) (by omega) (by omega) (fun hb1_1 => ?_) (fun hb1_1 => ?_)
  · skip
    refine j_iconst rfl ?_
    refine j_zret rfl rfl (by decide) ?_ rfl (Nat.le_refl _)
    exact ⟨by first | (rw [if_pos (by omega)]; done) | (rw [if_neg (by omega)]; done) | (exfalso; omega), rfl⟩
  · skip
    refine j_iload_n rfl rfl ?_
    refine j_bipush rfl (by decide) ?_
    refine j_icmp_ge (tgt := 14) rfl (by decide) (by omega) (by omega) (by omega) (by omega) (fun hb7_1 => ?_) (fun hb7_1 => ?_)
    · skip
      refine j_iconst rfl ?_
      refine j_zret rfl rfl (by decide) ?_ rfl (Nat.le_refl _)
      exact ⟨by first | (rw [if_pos (by omega)]; done) | (rw [if_neg (by omega)]; done) | (exfalso; omega), rfl⟩
    · skip
      refine j_iconst rfl ?_
      refine j_goto (tgt := 15) rfl (by decide) ?_
      refine j_zret rfl rfl (by decide) ?_ rfl (Nat.le_refl _)
      exact ⟨by first | (rw [if_pos (by omega)]; done) | (rw [if_neg (by omega)]; done) | (exfalso; omega), rfl⟩

set_option maxRecDepth 20000 in
set_option maxHeartbeats 4000000 in
theorem ct_X11_isWithin {G : QW} {m : AM} {v : Int} {size : Int} (hv1 : -2147483648 ≤ v) (hv2 : v < 2147483648) (hsize1 : -2147483648 ≤ size) (hsize2 : size < 2147483648) (h3 : 0 ≤ size) : qM G mX11_isWithin 0 0 0 [vI v, vI size] m (fun r m' => r = some (vI (if -size ≤ v ∧ v ≤ size then 1 else 0)) ∧ m' = m) := by
  refine qM.intro okX11_isWithin (Nat.le_of_ble_eq_true rfl) ?_
  refine j_iload_n rfl rfl ?_
  refine j_iload_n rfl rfl ?_
  refine j_ineg rfl ?_
  refine j_icmp_lt (tgt := 15) rfl (by decide) (by omega) (by omega) (by omega) (by omega) (fun hb3_1 => ?_) (fun hb3_1 => ?_)
  · skip
    refine j_iconst rfl ?_
    refine j_zret rfl rfl (by decide) ?_ rfl (Nat.le_refl _)
    exact ⟨by first | (rw [if_pos (by omega)]; done) | (rw [if_neg (by omega)]; done) | (exfalso; omega), rfl⟩
  · skip
    refine j_iload_n rfl rfl ?_
    refine j_iload_n rfl rfl ?_
    refine j_icmp_gt (tgt := 15) rfl (by decide) (by omega) (by omega) (by omega) (by omega) (fun hb8_1 => ?_) (fun hb8_1 => ?_)
    · skip
      refine j_iconst rfl ?_
      refine j_zret rfl rfl (by decide) ?_ rfl (Nat.le_refl _)
      exact ⟨by first | (rw [if_pos (by omega)]; done) | (rw [if_neg (by omega)]; done) | (exfalso; omega), rfl⟩
    · skip
      refine j_iconst rfl ?_
      refine j_goto (tgt := 16) rfl (by decide) ?_
      refine j_zret rfl rfl (by decide) ?_ rfl (Nat.le_refl _)
      exact ⟨by first | (rw [if_pos (by omega)]; done) | (rw [if_neg (by omega)]; done) | (exfalso; omega), rfl⟩

set_option maxRecDepth 20000 in
set_option maxHeartbeats 4000000 in
theorem ct_X12_isUnder {G : QW} {m : AM} {k : Int} {above : Int} (hk1 : -2147483648 ≤ k) (hk2 : k < 2147483648) (habove1 : -2147483648 ≤ above) (habove2 : above < 2147483648) : qM G mX12_isUnder 0 0 0 [vI k, vI above] m (fun r m' => r = some (vI (if above = 0 ∨ k = above ∨ (above = 3 ∧ k = 6) ∨ (above = 4 ∧ k = 5) then 1 else 0)) ∧ m' = m) := by
  refine qM.intro okX12_isUnder (Nat.le_of_ble_eq_true rfl) ?_
  refine j_iload_n rfl rfl ?_
  refine j_if_eq (tgt := 30) rfl (by decide) (by omega) (by omega) (fun hb1_1 => ?_) (fun hb1_1 => ?_)
  · skip
    refine j_iconst rfl ?_
    refine j_goto (tgt := 35) rfl (by decide) ?_
    refine j_zret rfl rfl (by decide) ?_ rfl (Nat.le_refl _)
    exact ⟨by first | (rw [if_pos (by omega)]; done) | (rw [if_neg (by omega)]; done) | (exfalso; omega), rfl⟩
  · skip
    refine j_iload_n rfl rfl ?_
    refine j_iload_n rfl rfl ?_
    refine j_icmp_eq (tgt := 30) rfl (by decide) (by omega) (by omega) (by omega) (by omega) (fun hb6_1 => ?_) (fun hb6_1 => ?_)
    · skip
      refine j_iconst rfl ?_
      refine j_goto (tgt := 35) rfl (by decide) ?_
      refine j_zret rfl rfl (by decide) ?_ rfl (Nat.le_refl _)
      exact ⟨by first | (rw [if_pos (by omega)]; done) | (rw [if_neg (by omega)]; done) | (exfalso; omega), rfl⟩
    · skip
      refine j_iload_n rfl rfl ?_
      refine j_iconst rfl ?_
      refine j_icmp_ne (tgt := 20) rfl (by decide) (by omega) (by omega) (by omega) (by omega) (fun hb11_1 => ?_) (fun hb11_1 => ?_)
      · skip
        refine j_iload_n rfl rfl ?_
        refine j_iconst rfl ?_
        refine j_icmp_ne (tgt := 34) rfl (by decide) (by omega) (by omega) (by omega) (by omega) (fun hb22_1 => ?_) (fun hb22_1 => ?_)
        · skip
          refine j_iconst rfl ?_
          refine j_zret rfl rfl (by decide) ?_ rfl (Nat.le_refl _)
          exact ⟨by first | (rw [if_pos (by omega)]; done) | (rw [if_neg (by omega)]; done) | (exfalso; omega), rfl⟩
        · skip
          refine j_iload_n rfl rfl ?_
          refine j_iconst rfl ?_
          refine j_icmp_ne (tgt := 34) rfl (by decide) (by omega) (by omega) (by omega) (by omega) (fun hb27_1 => ?_) (fun hb27_1 => ?_)
          · skip
            refine j_iconst rfl ?_
            refine j_zret rfl rfl (by decide) ?_ rfl (Nat.le_refl _)
            exact ⟨by first | (rw [if_pos (by omega)]; done) | (rw [if_neg (by omega)]; done) | (exfalso; omega), rfl⟩
          · skip
            refine j_iconst rfl ?_
            refine j_goto (tgt := 35) rfl (by decide) ?_
            refine j_zret rfl rfl (by decide) ?_ rfl (Nat.le_refl _)
            exact ⟨by first | (rw [if_pos (by omega)]; done) | (rw [if_neg (by omega)]; done) | (exfalso; omega), rfl⟩
      · skip
        refine j_iload_n rfl rfl ?_
        refine j_bipush rfl (by decide) ?_
        refine j_icmp_eq (tgt := 30) rfl (by decide) (by omega) (by omega) (by omega) (by omega) (fun hb17_1 => ?_) (fun hb17_1 => ?_)
        · skip
          refine j_iconst rfl ?_
          refine j_goto (tgt := 35) rfl (by decide) ?_
          refine j_zret rfl rfl (by decide) ?_ rfl (Nat.le_refl _)
          exact ⟨by first | (rw [if_pos (by omega)]; done) | (rw [if_neg (by omega)]; done) | (exfalso; omega), rfl⟩
        · skip
          refine j_iload_n rfl rfl ?_
          refine j_iconst rfl ?_
          refine j_icmp_ne (tgt := 34) rfl (by decide) (by omega) (by omega) (by omega) (by omega) (fun hb22_2 => ?_) (fun hb22_2 => ?_)
          · skip
            refine j_iconst rfl ?_
            refine j_zret rfl rfl (by decide) ?_ rfl (Nat.le_refl _)
            exact ⟨by first | (rw [if_pos (by omega)]; done) | (rw [if_neg (by omega)]; done) | (exfalso; omega), rfl⟩
          · skip
            refine j_iload_n rfl rfl ?_
            refine j_iconst rfl ?_
            refine j_icmp_ne (tgt := 34) rfl (by decide) (by omega) (by omega) (by omega) (by omega) (fun hb27_2 => ?_) (fun hb27_2 => ?_)
            · skip
              refine j_iconst rfl ?_
              refine j_zret rfl rfl (by decide) ?_ rfl (Nat.le_refl _)
              exact ⟨by first | (rw [if_pos (by omega)]; done) | (rw [if_neg (by omega)]; done) | (exfalso; omega), rfl⟩
            · skip
              refine j_iconst rfl ?_
              refine j_goto (tgt := 35) rfl (by decide) ?_
              refine j_zret rfl rfl (by decide) ?_ rfl (Nat.le_refl _)
              exact ⟨by first | (rw [if_pos (by omega)]; done) | (rw [if_neg (by omega)]; done) | (exfalso; omega), rfl⟩

set_option maxRecDepth 20000 in
set_option maxHeartbeats 4000000 in
theorem ct_X12_isBox {G : QW} {m : AM} (hS : St m) (hI : IM m) {b : Int} (hb1 : -2147483648 ≤ b) (hb2 : b < 2147483648) : qM G mX12_isBox 1 0 0 [vR 86, vI b] m (fun r m' => r = some (vI (if 0 ≤ b ∧ b < mi m 86 1 then 1 else 0)) ∧ m' = m) := by
  refine qM.intro okX12_isBox (Nat.le_of_ble_eq_true rfl) ?_
  refine j_iload_n rfl rfl ?_
  refine j_iconst rfl ?_
  refine j_aload_n rfl rfl ?_
  refine j_getI rfl f_X12_191 rfl (hS.lt (by decide)) (hS.k (by decide) (by decide)) ?_
  have u3_1 := hI.s 86 1 (0) 6 (by decide)
  refine j_iconst rfl ?_
  refine j_isub rfl ?_
  refine j_callS (As := [_, _, _]) rfl okX12_in c_X12_194 (ct_X12_in (by omega) (by omega) (by omega) (by omega) (by omega) (by omega)) rfl rfl (Nat.le_of_ble_eq_true rfl) (by decide) (by decide) ?_
  rintro vq mq ⟨e1, e2⟩
  rw [e1, e2]
  clear e1 e2
  simp only [Option.toList_some, Option.toList_none, List.cons_append, List.nil_append]
  have w1 := hI.s 86 1 (0) 6 (by decide)
  refine j_zret rfl rfl (by split <;> decide) ?_ rfl (Nat.le_refl _)
  exact ⟨congrArg some (congrArg vI (qite (by omega))), rfl⟩

set_option maxRecDepth 20000 in
set_option maxHeartbeats 4000000 in
theorem ct_X12_isFlight {G : QW} {m : AM} (hS : St m) (hI : IM m) {f : Int} (hf1 : -2147483648 ≤ f) (hf2 : f < 2147483648) : qM G mX12_isFlight 1 0 0 [vR 86, vI f] m (fun r m' => r = some (vI (if 0 ≤ f ∧ f < mi m 86 21 then 1 else 0)) ∧ m' = m) := by
  refine qM.intro okX12_isFlight (Nat.le_of_ble_eq_true rfl) ?_
  refine j_iload_n rfl rfl ?_
  refine j_iconst rfl ?_
  refine j_aload_n rfl rfl ?_
  refine j_getI rfl f_X12_267 rfl (hS.lt (by decide)) (hS.k (by decide) (by decide)) ?_
  have u3_1 := hI.s 86 21 (0) 8 (by decide)
  refine j_iconst rfl ?_
  refine j_isub rfl ?_
  refine j_callS (As := [_, _, _]) rfl okX12_in c_X12_194 (ct_X12_in (by omega) (by omega) (by omega) (by omega) (by omega) (by omega)) rfl rfl (Nat.le_of_ble_eq_true rfl) (by decide) (by decide) ?_
  rintro vq mq ⟨e1, e2⟩
  rw [e1, e2]
  clear e1 e2
  simp only [Option.toList_some, Option.toList_none, List.cons_append, List.nil_append]
  have w1 := hI.s 86 21 (0) 8 (by decide)
  refine j_zret rfl rfl (by split <;> decide) ?_ rfl (Nat.le_refl _)
  exact ⟨congrArg some (congrArg vI (qite (by omega))), rfl⟩

set_option maxRecDepth 20000 in
set_option maxHeartbeats 4000000 in
theorem ct_X12_isPaper {G : QW} {m : AM} (hS : St m) (hI : IM m) {q : Int} (hq1 : -2147483648 ≤ q) (hq2 : q < 2147483648) : qM G mX12_isPaper 1 0 0 [vR 86, vI q] m (fun r m' => r = some (vI (if 0 ≤ q ∧ q < mi m 86 70 then 1 else 0)) ∧ m' = m) := by
  refine qM.intro okX12_isPaper (Nat.le_of_ble_eq_true rfl) ?_
  refine j_iload_n rfl rfl ?_
  refine j_iconst rfl ?_
  refine j_aload_n rfl rfl ?_
  refine j_getI rfl f_X12_458 rfl (hS.lt (by decide)) (hS.k (by decide) (by decide)) ?_
  have u3_1 := hI.s 86 70 (0) 20 (by decide)
  refine j_iconst rfl ?_
  refine j_isub rfl ?_
  refine j_callS (As := [_, _, _]) rfl okX12_in c_X12_194 (ct_X12_in (by omega) (by omega) (by omega) (by omega) (by omega) (by omega)) rfl rfl (Nat.le_of_ble_eq_true rfl) (by decide) (by decide) ?_
  rintro vq mq ⟨e1, e2⟩
  rw [e1, e2]
  clear e1 e2
  simp only [Option.toList_some, Option.toList_none, List.cons_append, List.nil_append]
  have w1 := hI.s 86 70 (0) 20 (by decide)
  refine j_zret rfl rfl (by split <;> decide) ?_ rfl (Nat.le_refl _)
  exact ⟨congrArg some (congrArg vI (qite (by omega))), rfl⟩

set_option maxRecDepth 20000 in
set_option maxHeartbeats 4000000 in
theorem ct_X12_isLine {G : QW} {m : AM} (hS : St m) (hI : IM m) {b : Int} {l : Int} (hb1 : -2147483648 ≤ b) (hb2 : b < 2147483648) (hl1 : -2147483648 ≤ l) (hl2 : l < 2147483648) : qM G mX12_isLine 2 0 0 [vR 86, vI b, vI l] m (fun r m' => r = some (vI (if (0 ≤ b ∧ b < mi m 86 1) ∧ 0 ≤ l ∧ l < mi m 91 b.toNat then 1 else 0)) ∧ m' = m) := by
  refine qM.intro okX12_isLine (Nat.le_of_ble_eq_true rfl) ?_
  refine j_aload_n rfl rfl ?_
  refine j_iload_n rfl rfl ?_
  refine j_callV (ci := 12) rfl okX12_isBox c_X12_198 (ct_X12_isBox hS hI (by omega) (by omega)) rfl rfl (hS.lt (by decide)) (hS.k (by decide) (by decide)) (by decide) rfl (Nat.le_of_ble_eq_true rfl) (by decide) (by decide) ?_
  rintro vq mq ⟨e1, e2⟩
  rw [e1, e2]
  clear e1 e2
  simp only [Option.toList_some, Option.toList_none, List.cons_append, List.nil_append]
  have w1 := hI.s 86 1 (0) 6 (by decide)
  refine j_bif_eq (tgt := 28) rfl (by decide) (fun hb5_1 => ?_) (fun hb5_1 => ?_)
  · skip
    refine j_iconst rfl ?_
    refine j_zret rfl rfl (by decide) ?_ rfl (Nat.le_refl _)
    exact ⟨by first | (rw [if_pos (by omega)]; done) | (rw [if_neg (by omega)]; done) | (exfalso; omega), rfl⟩
  · skip
    refine j_iload_n rfl rfl ?_
    refine j_iconst rfl ?_
    refine j_aload_n rfl rfl ?_
    refine j_getR (q := 91) rfl f_X12_22 rfl (hS.lt (by decide)) (hS.k (by decide) (by decide)) (hS.r (by decide)) ?_
    refine j_iload_n rfl rfl ?_
    refine j_iald (n := 7) rfl (hS.lt (by decide)) (hS.k (by decide) (by decide)) (hS.n (by decide) (by decide)) (by omega) (by omega) (by decide) ?_
    have u15_1 := hI.a 91 (0) 12 (by decide) b.toNat
    refine j_iconst rfl ?_
    refine j_isub rfl ?_
    refine j_callS (As := [_, _, _]) rfl okX12_in c_X12_194 (ct_X12_in (by omega) (by omega) (by omega) (by omega) (by omega) (by omega)) rfl rfl (Nat.le_of_ble_eq_true rfl) (by decide) (by decide) ?_
    rintro vq mq ⟨e1, e2⟩
    rw [e1, e2]
    clear e1 e2
    simp only [Option.toList_some, Option.toList_none, List.cons_append, List.nil_append]
    have w2 := hI.a 91 (0) 12 (by decide) b.toNat
    refine j_bif_eq (tgt := 28) rfl (by decide) (fun hb21_1 => ?_) (fun hb21_1 => ?_)
    · skip
      refine j_iconst rfl ?_
      refine j_zret rfl rfl (by decide) ?_ rfl (Nat.le_refl _)
      exact ⟨by first | (rw [if_pos (by omega)]; done) | (rw [if_neg (by omega)]; done) | (exfalso; omega), rfl⟩
    · skip
      refine j_iconst rfl ?_
      refine j_goto (tgt := 29) rfl (by decide) ?_
      refine j_zret rfl rfl (by decide) ?_ rfl (Nat.le_refl _)
      exact ⟨by first | (rw [if_pos (by omega)]; done) | (rw [if_neg (by omega)]; done) | (exfalso; omega), rfl⟩

set_option maxRecDepth 20000 in
set_option maxHeartbeats 4000000 in
theorem ct_X12_isFelt {G : QW} {m : AM} (hS : St m) (hI : IM m) {k : Int} (hk1 : -2147483648 ≤ k) (hk2 : k < 2147483648) : qM G mX12_isFelt 2 0 0 [vR 86, vI k] m (fun r m' => r = some (vI (if 0 ≤ k ∧ (0 ≤ k / 10 ∧ k / 10 < mi m 86 21) ∧ 0 ≤ k % 10 ∧ k % 10 ≤ 2 then 1 else 0)) ∧ m' = m) := by
  refine qM.intro okX12_isFelt (Nat.le_of_ble_eq_true rfl) ?_
  refine j_iload_n rfl rfl ?_
  refine j_if_lt (tgt := 31) rfl (by decide) (by omega) (by omega) (fun hb1_1 => ?_) (fun hb1_1 => ?_)
  · skip
    refine j_iconst rfl ?_
    refine j_zret rfl rfl (by decide) ?_ rfl (Nat.le_refl _)
    exact ⟨by first | (rw [if_pos (by omega)]; done) | (rw [if_neg (by omega)]; done) | (exfalso; omega), rfl⟩
  · skip
    refine j_aload_n rfl rfl ?_
    refine j_iload_n rfl rfl ?_
    refine j_bipush rfl (by decide) ?_
    refine j_idivN rfl (by omega) (by omega) (by omega) (by omega) ?_
    refine j_callV (ci := 12) rfl okX12_isFlight c_X12_270 (ct_X12_isFlight hS hI (by omega) (by omega)) rfl rfl (hS.lt (by decide)) (hS.k (by decide) (by decide)) (by decide) rfl (Nat.le_of_ble_eq_true rfl) (by decide) (by decide) ?_
    rintro vq mq ⟨e1, e2⟩
    rw [e1, e2]
    clear e1 e2
    simp only [Option.toList_some, Option.toList_none, List.cons_append, List.nil_append]
    have w1 := hI.s 86 21 (0) 8 (by decide)
    refine j_bif_eq (tgt := 31) rfl (by decide) (fun hb12_1 => ?_) (fun hb12_1 => ?_)
    · skip
      refine j_iconst rfl ?_
      refine j_zret rfl rfl (by decide) ?_ rfl (Nat.le_refl _)
      exact ⟨by first | (rw [if_pos (by omega)]; done) | (rw [if_neg (by omega)]; done) | (exfalso; omega), rfl⟩
    · skip
      refine j_iload_n rfl rfl ?_
      refine j_bipush rfl (by decide) ?_
      refine j_iremN rfl (by omega) (by omega) (by omega) (by omega) ?_
      refine j_iconst rfl ?_
      refine j_iconst rfl ?_
      refine j_callS (As := [_, _, _]) rfl okX12_in c_X12_194 (ct_X12_in (by omega) (by omega) (by omega) (by omega) (by omega) (by omega)) rfl rfl (Nat.le_of_ble_eq_true rfl) (by decide) (by decide) ?_
      rintro vq mq ⟨e1, e2⟩
      rw [e1, e2]
      clear e1 e2
      simp only [Option.toList_some, Option.toList_none, List.cons_append, List.nil_append]
      refine j_bif_eq (tgt := 31) rfl (by decide) (fun hb24_1 => ?_) (fun hb24_1 => ?_)
      · skip
        refine j_iconst rfl ?_
        refine j_zret rfl rfl (by decide) ?_ rfl (Nat.le_refl _)
        exact ⟨by first | (rw [if_pos (by omega)]; done) | (rw [if_neg (by omega)]; done) | (exfalso; omega), rfl⟩
      · skip
        refine j_iconst rfl ?_
        refine j_goto (tgt := 32) rfl (by decide) ?_
        refine j_zret rfl rfl (by decide) ?_ rfl (Nat.le_refl _)
        exact ⟨by first | (rw [if_pos (by omega)]; done) | (rw [if_neg (by omega)]; done) | (exfalso; omega), rfl⟩

set_option maxRecDepth 20000 in
set_option maxHeartbeats 4000000 in
theorem ct_X12_isReals {G : QW} {m : AM} (hS : St m) (hI : IM m) {s : Int} (hs1 : -2147483648 ≤ s) (hs2 : s < 2147483648) (h3 : 0 ≤ s) (h4 : s ≤ 5) : qM G mX12_isReals 0 0 0 [vR 86, vI s] m (fun r m' => r = some (vI (if mi m 139 s.toNat = -5 ∨ mi m 139 s.toNat = -6 then 1 else 0)) ∧ m' = m) := by
  refine qM.intro okX12_isReals (Nat.le_of_ble_eq_true rfl) ?_
  refine j_aload_n rfl rfl ?_
  refine j_getR (q := 139) rfl f_X12_169 rfl (hS.lt (by decide)) (hS.k (by decide) (by decide)) (hS.r (by decide)) ?_
  refine j_iload_n rfl rfl ?_
  refine j_iald (n := 6) rfl (hS.lt (by decide)) (hS.k (by decide) (by decide)) (hS.n (by decide) (by decide)) (by omega) (by omega) (by decide) ?_
  have u5_1 := hI.a 139 (-6) 5 (by decide) s.toNat
  refine j_bipush rfl (by decide) ?_
  refine j_icmp_eq (tgt := 22) rfl (by decide) (by omega) (by omega) (by omega) (by omega) (fun hb8_1 => ?_) (fun hb8_1 => ?_)
  · skip
    refine j_iconst rfl ?_
    refine j_goto (tgt := 27) rfl (by decide) ?_
    refine j_zret rfl rfl (by decide) ?_ rfl (Nat.le_refl _)
    exact ⟨by first | (rw [if_pos (by omega)]; done) | (rw [if_neg (by omega)]; done) | (exfalso; omega), rfl⟩
  · skip
    refine j_aload_n rfl rfl ?_
    refine j_getR (q := 139) rfl f_X12_169 rfl (hS.lt (by decide)) (hS.k (by decide) (by decide)) (hS.r (by decide)) ?_
    refine j_iload_n rfl rfl ?_
    refine j_iald (n := 6) rfl (hS.lt (by decide)) (hS.k (by decide) (by decide)) (hS.n (by decide) (by decide)) (by omega) (by omega) (by decide) ?_
    have u16_1 := hI.a 139 (-6) 5 (by decide) s.toNat
    refine j_bipush rfl (by decide) ?_
    refine j_icmp_ne (tgt := 26) rfl (by decide) (by omega) (by omega) (by omega) (by omega) (fun hb19_1 => ?_) (fun hb19_1 => ?_)
    · skip
      refine j_iconst rfl ?_
      refine j_zret rfl rfl (by decide) ?_ rfl (Nat.le_refl _)
      exact ⟨by first | (rw [if_pos (by omega)]; done) | (rw [if_neg (by omega)]; done) | (exfalso; omega), rfl⟩
    · skip
      refine j_iconst rfl ?_
      refine j_goto (tgt := 27) rfl (by decide) ?_
      refine j_zret rfl rfl (by decide) ?_ rfl (Nat.le_refl _)
      exact ⟨by first | (rw [if_pos (by omega)]; done) | (rw [if_neg (by omega)]; done) | (exfalso; omega), rfl⟩

set_option maxRecDepth 20000 in
set_option maxHeartbeats 4000000 in
theorem ct_X11_isBox {G : QW} {m : AM} (hS : St m) (hI : IM m) {b : Int} (hb1 : -2147483648 ≤ b) (hb2 : b < 2147483648) : qM G mX11_isBox 0 0 0 [vR 0, vI b] m (fun r m' => r = some (vI (if 0 ≤ b ∧ b < mi m 0 16 then 1 else 0)) ∧ m' = m) := by
  refine qM.intro okX11_isBox (Nat.le_of_ble_eq_true rfl) ?_
  refine j_iload_n rfl rfl ?_
  refine j_if_lt (tgt := 16) rfl (by decide) (by omega) (by omega) (fun hb1_1 => ?_) (fun hb1_1 => ?_)
  · skip
    refine j_iconst rfl ?_
    refine j_zret rfl rfl (by decide) ?_ rfl (Nat.le_refl _)
    exact ⟨by first | (rw [if_pos (by omega)]; done) | (rw [if_neg (by omega)]; done) | (exfalso; omega), rfl⟩
  · skip
    refine j_iload_n rfl rfl ?_
    refine j_aload_n rfl rfl ?_
    refine j_getI rfl f_X11_113 rfl (hS.lt (by decide)) (hS.k (by decide) (by decide)) ?_
    have u6_1 := hI.s 0 16 (0) 6 (by decide)
    refine j_icmp_ge (tgt := 16) rfl (by decide) (by omega) (by omega) (by omega) (by omega) (fun hb9_1 => ?_) (fun hb9_1 => ?_)
    · skip
      refine j_iconst rfl ?_
      refine j_zret rfl rfl (by decide) ?_ rfl (Nat.le_refl _)
      exact ⟨by first | (rw [if_pos (by omega)]; done) | (rw [if_neg (by omega)]; done) | (exfalso; omega), rfl⟩
    · skip
      refine j_iconst rfl ?_
      refine j_goto (tgt := 17) rfl (by decide) ?_
      refine j_zret rfl rfl (by decide) ?_ rfl (Nat.le_refl _)
      exact ⟨by first | (rw [if_pos (by omega)]; done) | (rw [if_neg (by omega)]; done) | (exfalso; omega), rfl⟩

set_option maxRecDepth 20000 in
set_option maxHeartbeats 4000000 in
theorem ct_X11_isFlight {G : QW} {m : AM} (hS : St m) (hI : IM m) {f : Int} (hf1 : -2147483648 ≤ f) (hf2 : f < 2147483648) : qM G mX11_isFlight 0 0 0 [vR 0, vI f] m (fun r m' => r = some (vI (if 0 ≤ f ∧ f < mi m 0 17 then 1 else 0)) ∧ m' = m) := by
  refine qM.intro okX11_isFlight (Nat.le_of_ble_eq_true rfl) ?_
  refine j_iload_n rfl rfl ?_
  refine j_if_lt (tgt := 16) rfl (by decide) (by omega) (by omega) (fun hb1_1 => ?_) (fun hb1_1 => ?_)
  · skip
    refine j_iconst rfl ?_
    refine j_zret rfl rfl (by decide) ?_ rfl (Nat.le_refl _)
    exact ⟨by first | (rw [if_pos (by omega)]; done) | (rw [if_neg (by omega)]; done) | (exfalso; omega), rfl⟩
  · skip
    refine j_iload_n rfl rfl ?_
    refine j_aload_n rfl rfl ?_
    refine j_getI rfl f_X11_156 rfl (hS.lt (by decide)) (hS.k (by decide) (by decide)) ?_
    have u6_1 := hI.s 0 17 (0) 8 (by decide)
    refine j_icmp_ge (tgt := 16) rfl (by decide) (by omega) (by omega) (by omega) (by omega) (fun hb9_1 => ?_) (fun hb9_1 => ?_)
    · skip
      refine j_iconst rfl ?_
      refine j_zret rfl rfl (by decide) ?_ rfl (Nat.le_refl _)
      exact ⟨by first | (rw [if_pos (by omega)]; done) | (rw [if_neg (by omega)]; done) | (exfalso; omega), rfl⟩
    · skip
      refine j_iconst rfl ?_
      refine j_goto (tgt := 17) rfl (by decide) ?_
      refine j_zret rfl rfl (by decide) ?_ rfl (Nat.le_refl _)
      exact ⟨by first | (rw [if_pos (by omega)]; done) | (rw [if_neg (by omega)]; done) | (exfalso; omega), rfl⟩

set_option maxRecDepth 20000 in
set_option maxHeartbeats 4000000 in
theorem ct_X11_isPaper {G : QW} {m : AM} (hS : St m) (hI : IM m) {q : Int} (hq1 : -2147483648 ≤ q) (hq2 : q < 2147483648) : qM G mX11_isPaper 0 0 0 [vR 0, vI q] m (fun r m' => r = some (vI (if 0 ≤ q ∧ q < mi m 6 5 then 1 else 0)) ∧ m' = m) := by
  refine qM.intro okX11_isPaper (Nat.le_of_ble_eq_true rfl) ?_
  refine j_iload_n rfl rfl ?_
  refine j_if_lt (tgt := 19) rfl (by decide) (by omega) (by omega) (fun hb1_1 => ?_) (fun hb1_1 => ?_)
  · skip
    refine j_iconst rfl ?_
    refine j_zret rfl rfl (by decide) ?_ rfl (Nat.le_refl _)
    exact ⟨by first | (rw [if_pos (by omega)]; done) | (rw [if_neg (by omega)]; done) | (exfalso; omega), rfl⟩
  · skip
    refine j_iload_n rfl rfl ?_
    refine j_aload_n rfl rfl ?_
    refine j_getR (q := 6) rfl f_X11_37 rfl (hS.lt (by decide)) (hS.k (by decide) (by decide)) (hS.r (by decide)) ?_
    refine j_getI rfl f_X11_324 rfl (hS.lt (by decide)) (hS.k (by decide) (by decide)) ?_
    have u9_1 := hI.s 6 5 (0) 20 (by decide)
    refine j_icmp_ge (tgt := 19) rfl (by decide) (by omega) (by omega) (by omega) (by omega) (fun hb12_1 => ?_) (fun hb12_1 => ?_)
    · skip
      refine j_iconst rfl ?_
      refine j_zret rfl rfl (by decide) ?_ rfl (Nat.le_refl _)
      exact ⟨by first | (rw [if_pos (by omega)]; done) | (rw [if_neg (by omega)]; done) | (exfalso; omega), rfl⟩
    · skip
      refine j_iconst rfl ?_
      refine j_goto (tgt := 20) rfl (by decide) ?_
      refine j_zret rfl rfl (by decide) ?_ rfl (Nat.le_refl _)
      exact ⟨by first | (rw [if_pos (by omega)]; done) | (rw [if_neg (by omega)]; done) | (exfalso; omega), rfl⟩

set_option maxRecDepth 20000 in
set_option maxHeartbeats 4000000 in
theorem ct_X11_isFelt {G : QW} {m : AM} (hS : St m) (hI : IM m) {k : Int} (hk1 : -2147483648 ≤ k) (hk2 : k < 2147483648) : qM G mX11_isFelt 1 0 0 [vR 0, vI k] m (fun r m' => r = some (vI (if 0 ≤ k ∧ (0 ≤ k / 10 ∧ k / 10 < mi m 0 17) ∧ k % 10 ≤ 2 then 1 else 0)) ∧ m' = m) := by
  refine qM.intro okX11_isFelt (Nat.le_of_ble_eq_true rfl) ?_
  refine j_iload_n rfl rfl ?_
  refine j_if_lt (tgt := 27) rfl (by decide) (by omega) (by omega) (fun hb1_1 => ?_) (fun hb1_1 => ?_)
  · skip
    refine j_iconst rfl ?_
    refine j_zret rfl rfl (by decide) ?_ rfl (Nat.le_refl _)
    exact ⟨by first | (rw [if_pos (by omega)]; done) | (rw [if_neg (by omega)]; done) | (exfalso; omega), rfl⟩
  · skip
    refine j_aload_n rfl rfl ?_
    refine j_iload_n rfl rfl ?_
    refine j_bipush rfl (by decide) ?_
    refine j_idivN rfl (by omega) (by omega) (by omega) (by omega) ?_
    refine j_callV (ci := 11) rfl okX11_isFlight c_X11_191 (ct_X11_isFlight hS hI (by omega) (by omega)) rfl rfl (hS.lt (by decide)) (hS.k (by decide) (by decide)) (by decide) rfl (Nat.le_of_ble_eq_true rfl) (by decide) (by decide) ?_
    rintro vq mq ⟨e1, e2⟩
    rw [e1, e2]
    clear e1 e2
    simp only [Option.toList_some, Option.toList_none, List.cons_append, List.nil_append]
    have w1 := hI.s 0 17 (0) 8 (by decide)
    refine j_bif_eq (tgt := 27) rfl (by decide) (fun hb12_1 => ?_) (fun hb12_1 => ?_)
    · skip
      refine j_iconst rfl ?_
      refine j_zret rfl rfl (by decide) ?_ rfl (Nat.le_refl _)
      exact ⟨by first | (rw [if_pos (by omega)]; done) | (rw [if_neg (by omega)]; done) | (exfalso; omega), rfl⟩
    · skip
      refine j_iload_n rfl rfl ?_
      refine j_bipush rfl (by decide) ?_
      refine j_iremN rfl (by omega) (by omega) (by omega) (by omega) ?_
      refine j_iconst rfl ?_
      refine j_icmp_ge (tgt := 27) rfl (by decide) (by omega) (by omega) (by omega) (by omega) (fun hb20_1 => ?_) (fun hb20_1 => ?_)
      · skip
        refine j_iconst rfl ?_
        refine j_zret rfl rfl (by decide) ?_ rfl (Nat.le_refl _)
        exact ⟨by first | (rw [if_pos (by omega)]; done) | (rw [if_neg (by omega)]; done) | (exfalso; omega), rfl⟩
      · skip
        refine j_iconst rfl ?_
        refine j_goto (tgt := 28) rfl (by decide) ?_
        refine j_zret rfl rfl (by decide) ?_ rfl (Nat.le_refl _)
        exact ⟨by first | (rw [if_pos (by omega)]; done) | (rw [if_neg (by omega)]; done) | (exfalso; omega), rfl⟩

set_option maxRecDepth 20000 in
set_option maxHeartbeats 4000000 in
theorem ct_X11_isGround {G : QW} {m : AM} (hS : St m) (hI : IM m) {q : Int} (hq1 : -2147483648 ≤ q) (hq2 : q < 2147483648) : qM G mX11_isGround 1 0 0 [vR 0, vI q] m (fun r m' => r = some (vI (if q = 99 ∨ (0 ≤ q ∧ q < mi m 6 5) then 1 else 0)) ∧ m' = m) := by
  refine qM.intro okX11_isGround (Nat.le_of_ble_eq_true rfl) ?_
  refine j_iload_n rfl rfl ?_
  refine j_bipush rfl (by decide) ?_
  refine j_icmp_eq (tgt := 14) rfl (by decide) (by omega) (by omega) (by omega) (by omega) (fun hb3_1 => ?_) (fun hb3_1 => ?_)
  · skip
    refine j_iconst rfl ?_
    refine j_goto (tgt := 19) rfl (by decide) ?_
    refine j_zret rfl rfl (by decide) ?_ rfl (Nat.le_refl _)
    exact ⟨by first | (rw [if_pos (by omega)]; done) | (rw [if_neg (by omega)]; done) | (exfalso; omega), rfl⟩
  · skip
    refine j_aload_n rfl rfl ?_
    refine j_iload_n rfl rfl ?_
    refine j_callV (ci := 11) rfl okX11_isPaper c_X11_334 (ct_X11_isPaper hS hI (by omega) (by omega)) rfl rfl (hS.lt (by decide)) (hS.k (by decide) (by decide)) (by decide) rfl (Nat.le_of_ble_eq_true rfl) (by decide) (by decide) ?_
    rintro vq mq ⟨e1, e2⟩
    rw [e1, e2]
    clear e1 e2
    simp only [Option.toList_some, Option.toList_none, List.cons_append, List.nil_append]
    have w1 := hI.s 6 5 (0) 20 (by decide)
    refine j_bif_eq (tgt := 18) rfl (by decide) (fun hb11_1 => ?_) (fun hb11_1 => ?_)
    · skip
      refine j_iconst rfl ?_
      refine j_zret rfl rfl (by decide) ?_ rfl (Nat.le_refl _)
      exact ⟨by first | (rw [if_pos (by omega)]; done) | (rw [if_neg (by omega)]; done) | (exfalso; omega), rfl⟩
    · skip
      refine j_iconst rfl ?_
      refine j_goto (tgt := 19) rfl (by decide) ?_
      refine j_zret rfl rfl (by decide) ?_ rfl (Nat.le_refl _)
      exact ⟨by first | (rw [if_pos (by omega)]; done) | (rw [if_neg (by omega)]; done) | (exfalso; omega), rfl⟩

set_option maxRecDepth 20000 in
set_option maxHeartbeats 4000000 in
theorem ct_X11_isClaim {G : QW} {m : AM} (hS : St m) (hI : IM m) {sort : Int} {k : Int} {v : Int} (hsort1 : -2147483648 ≤ sort) (hsort2 : sort < 2147483648) (hk1 : -2147483648 ≤ k) (hk2 : k < 2147483648) (hv1 : -2147483648 ≤ v) (hv2 : v < 2147483648) : qM G mX11_isClaim 1 0 0 [vR 0, vI sort, vI k, vI v] m (fun r m' => r = some (vI (if (sort = 0 ∧ 0 ≤ k ∧ k ≤ 2 ∧ 0 ≤ v ∧ v ≤ 99999) ∨ (¬ (sort = 0 ∧ 0 ≤ k ∧ k ≤ 2) ∧ 10 ≤ k ∧ k - 10 < mi m 0 16 ∧ (sort = 0 ∨ (sort = 1 ∧ 0 ≤ v ∧ v / 100 < mi m 0 17 ∧ 0 < v % 100))) then 1 else 0)) ∧ m' = m) := by
  refine qM.intro okX11_isClaim (Nat.le_of_ble_eq_true rfl) ?_
  refine j_iload_n rfl rfl ?_
  refine j_if_ne (tgt := 29) rfl (by decide) (by omega) (by omega) (fun hb1_1 => ?_) (fun hb1_1 => ?_)
  · skip
    refine j_iload_n rfl rfl ?_
    refine j_bipush rfl (by decide) ?_
    refine j_icmp_lt (tgt := 46) rfl (by decide) (by omega) (by omega) (by omega) (by omega) (fun hb32_1 => ?_) (fun hb32_1 => ?_)
    · skip
      refine j_iconst rfl ?_
      refine j_zret rfl rfl (by decide) ?_ rfl (Nat.le_refl _)
      exact ⟨by first | (rw [if_pos (by omega)]; done) | (rw [if_neg (by omega)]; done) | (exfalso; omega), rfl⟩
    · skip
      refine j_aload_n rfl rfl ?_
      refine j_iload_n rfl rfl ?_
      refine j_bipush rfl (by decide) ?_
      refine j_isub rfl ?_
      refine j_callV (ci := 11) rfl okX11_isBox c_X11_119 (ct_X11_isBox hS hI (by omega) (by omega)) rfl rfl (hS.lt (by decide)) (hS.k (by decide) (by decide)) (by decide) rfl (Nat.le_of_ble_eq_true rfl) (by decide) (by decide) ?_
      rintro vq mq ⟨e1, e2⟩
      rw [e1, e2]
      clear e1 e2
      simp only [Option.toList_some, Option.toList_none, List.cons_append, List.nil_append]
      have w1 := hI.s 0 16 (0) 6 (by decide)
      refine j_bif_ne (tgt := 48) rfl (by decide) (fun hb43_1 => ?_) (fun hb43_1 => ?_)
      · skip
        refine j_iload_n rfl rfl ?_
        refine j_if_eq (tgt := 79) rfl (by decide) (by omega) (by omega) (fun hb49_1 => ?_) (fun hb49_1 => ?_)
        · skip
          refine j_iconst rfl ?_
          refine j_goto (tgt := 84) rfl (by decide) ?_
          refine j_zret rfl rfl (by decide) ?_ rfl (Nat.le_refl _)
          exact ⟨by first | (rw [if_pos (by omega)]; done) | (rw [if_neg (by omega)]; done) | (exfalso; omega), rfl⟩
        · skip
          refine j_iload_n rfl rfl ?_
          refine j_iconst rfl ?_
          refine j_icmp_ne (tgt := 83) rfl (by decide) (by omega) (by omega) (by omega) (by omega) (fun hb54_1 => ?_) (fun hb54_1 => ?_)
          · skip
            refine j_iconst rfl ?_
            refine j_zret rfl rfl (by decide) ?_ rfl (Nat.le_refl _)
            exact ⟨by first | (rw [if_pos (by omega)]; done) | (rw [if_neg (by omega)]; done) | (exfalso; omega), rfl⟩
          · skip
            refine j_iload_n rfl rfl ?_
            refine j_if_lt (tgt := 83) rfl (by decide) (by omega) (by omega) (fun hb58_1 => ?_) (fun hb58_1 => ?_)
            · skip
              refine j_iconst rfl ?_
              refine j_zret rfl rfl (by decide) ?_ rfl (Nat.le_refl _)
              exact ⟨by first | (rw [if_pos (by omega)]; done) | (rw [if_neg (by omega)]; done) | (exfalso; omega), rfl⟩
            · skip
              refine j_aload_n rfl rfl ?_
              refine j_iload_n rfl rfl ?_
              refine j_bipush rfl (by decide) ?_
              refine j_idivN rfl (by omega) (by omega) (by omega) (by omega) ?_
              refine j_callV (ci := 11) rfl okX11_isFlight c_X11_191 (ct_X11_isFlight hS hI (by omega) (by omega)) rfl rfl (hS.lt (by decide)) (hS.k (by decide) (by decide)) (by decide) rfl (Nat.le_of_ble_eq_true rfl) (by decide) (by decide) ?_
              rintro vq mq ⟨e1, e2⟩
              rw [e1, e2]
              clear e1 e2
              simp only [Option.toList_some, Option.toList_none, List.cons_append, List.nil_append]
              have w2 := hI.s 0 17 (0) 8 (by decide)
              refine j_bif_eq (tgt := 83) rfl (by decide) (fun hb69_1 => ?_) (fun hb69_1 => ?_)
              · skip
                refine j_iconst rfl ?_
                refine j_zret rfl rfl (by decide) ?_ rfl (Nat.le_refl _)
                exact ⟨by first | (rw [if_pos (by omega)]; done) | (rw [if_neg (by omega)]; done) | (exfalso; omega), rfl⟩
              · skip
                refine j_iload_n rfl rfl ?_
                refine j_bipush rfl (by decide) ?_
                refine j_iremN rfl (by omega) (by omega) (by omega) (by omega) ?_
                refine j_if_le (tgt := 83) rfl (by decide) (by omega) (by omega) (fun hb76_1 => ?_) (fun hb76_1 => ?_)
                · skip
                  refine j_iconst rfl ?_
                  refine j_zret rfl rfl (by decide) ?_ rfl (Nat.le_refl _)
                  exact ⟨by first | (rw [if_pos (by omega)]; done) | (rw [if_neg (by omega)]; done) | (exfalso; omega), rfl⟩
                · skip
                  refine j_iconst rfl ?_
                  refine j_goto (tgt := 84) rfl (by decide) ?_
                  refine j_zret rfl rfl (by decide) ?_ rfl (Nat.le_refl _)
                  exact ⟨by first | (rw [if_pos (by omega)]; done) | (rw [if_neg (by omega)]; done) | (exfalso; omega), rfl⟩
      · skip
        refine j_iconst rfl ?_
        refine j_zret rfl rfl (by decide) ?_ rfl (Nat.le_refl _)
        exact ⟨by first | (rw [if_pos (by omega)]; done) | (rw [if_neg (by omega)]; done) | (exfalso; omega), rfl⟩
  · skip
    refine j_iload_n rfl rfl ?_
    refine j_if_lt (tgt := 29) rfl (by decide) (by omega) (by omega) (fun hb5_1 => ?_) (fun hb5_1 => ?_)
    · skip
      refine j_iload_n rfl rfl ?_
      refine j_bipush rfl (by decide) ?_
      refine j_icmp_lt (tgt := 46) rfl (by decide) (by omega) (by omega) (by omega) (by omega) (fun hb32_2 => ?_) (fun hb32_2 => ?_)
      · skip
        refine j_iconst rfl ?_
        refine j_zret rfl rfl (by decide) ?_ rfl (Nat.le_refl _)
        exact ⟨by first | (rw [if_pos (by omega)]; done) | (rw [if_neg (by omega)]; done) | (exfalso; omega), rfl⟩
      · skip
        refine j_aload_n rfl rfl ?_
        refine j_iload_n rfl rfl ?_
        refine j_bipush rfl (by decide) ?_
        refine j_isub rfl ?_
        refine j_callV (ci := 11) rfl okX11_isBox c_X11_119 (ct_X11_isBox hS hI (by omega) (by omega)) rfl rfl (hS.lt (by decide)) (hS.k (by decide) (by decide)) (by decide) rfl (Nat.le_of_ble_eq_true rfl) (by decide) (by decide) ?_
        rintro vq mq ⟨e1, e2⟩
        rw [e1, e2]
        clear e1 e2
        simp only [Option.toList_some, Option.toList_none, List.cons_append, List.nil_append]
        have w3 := hI.s 0 16 (0) 6 (by decide)
        refine j_bif_ne (tgt := 48) rfl (by decide) (fun hb43_2 => ?_) (fun hb43_2 => ?_)
        · skip
          refine j_iload_n rfl rfl ?_
          refine j_if_eq (tgt := 79) rfl (by decide) (by omega) (by omega) (fun hb49_2 => ?_) (fun hb49_2 => ?_)
          · skip
            refine j_iconst rfl ?_
            refine j_goto (tgt := 84) rfl (by decide) ?_
            refine j_zret rfl rfl (by decide) ?_ rfl (Nat.le_refl _)
            exact ⟨by first | (rw [if_pos (by omega)]; done) | (rw [if_neg (by omega)]; done) | (exfalso; omega), rfl⟩
          · skip
            refine j_iload_n rfl rfl ?_
            refine j_iconst rfl ?_
            refine j_icmp_ne (tgt := 83) rfl (by decide) (by omega) (by omega) (by omega) (by omega) (fun hb54_2 => ?_) (fun hb54_2 => ?_)
            · skip
              refine j_iconst rfl ?_
              refine j_zret rfl rfl (by decide) ?_ rfl (Nat.le_refl _)
              exact ⟨by first | (rw [if_pos (by omega)]; done) | (rw [if_neg (by omega)]; done) | (exfalso; omega), rfl⟩
            · skip
              refine j_iload_n rfl rfl ?_
              refine j_if_lt (tgt := 83) rfl (by decide) (by omega) (by omega) (fun hb58_2 => ?_) (fun hb58_2 => ?_)
              · skip
                refine j_iconst rfl ?_
                refine j_zret rfl rfl (by decide) ?_ rfl (Nat.le_refl _)
                exact ⟨by first | (rw [if_pos (by omega)]; done) | (rw [if_neg (by omega)]; done) | (exfalso; omega), rfl⟩
              · skip
                refine j_aload_n rfl rfl ?_
                refine j_iload_n rfl rfl ?_
                refine j_bipush rfl (by decide) ?_
                refine j_idivN rfl (by omega) (by omega) (by omega) (by omega) ?_
                refine j_callV (ci := 11) rfl okX11_isFlight c_X11_191 (ct_X11_isFlight hS hI (by omega) (by omega)) rfl rfl (hS.lt (by decide)) (hS.k (by decide) (by decide)) (by decide) rfl (Nat.le_of_ble_eq_true rfl) (by decide) (by decide) ?_
                rintro vq mq ⟨e1, e2⟩
                rw [e1, e2]
                clear e1 e2
                simp only [Option.toList_some, Option.toList_none, List.cons_append, List.nil_append]
                have w4 := hI.s 0 17 (0) 8 (by decide)
                refine j_bif_eq (tgt := 83) rfl (by decide) (fun hb69_2 => ?_) (fun hb69_2 => ?_)
                · skip
                  refine j_iconst rfl ?_
                  refine j_zret rfl rfl (by decide) ?_ rfl (Nat.le_refl _)
                  exact ⟨by first | (rw [if_pos (by omega)]; done) | (rw [if_neg (by omega)]; done) | (exfalso; omega), rfl⟩
                · skip
                  refine j_iload_n rfl rfl ?_
                  refine j_bipush rfl (by decide) ?_
                  refine j_iremN rfl (by omega) (by omega) (by omega) (by omega) ?_
                  refine j_if_le (tgt := 83) rfl (by decide) (by omega) (by omega) (fun hb76_2 => ?_) (fun hb76_2 => ?_)
                  · skip
                    refine j_iconst rfl ?_
                    refine j_zret rfl rfl (by decide) ?_ rfl (Nat.le_refl _)
                    exact ⟨by first | (rw [if_pos (by omega)]; done) | (rw [if_neg (by omega)]; done) | (exfalso; omega), rfl⟩
                  · skip
                    refine j_iconst rfl ?_
                    refine j_goto (tgt := 84) rfl (by decide) ?_
                    refine j_zret rfl rfl (by decide) ?_ rfl (Nat.le_refl _)
                    exact ⟨by first | (rw [if_pos (by omega)]; done) | (rw [if_neg (by omega)]; done) | (exfalso; omega), rfl⟩
        · skip
          refine j_iconst rfl ?_
          refine j_zret rfl rfl (by decide) ?_ rfl (Nat.le_refl _)
          exact ⟨by first | (rw [if_pos (by omega)]; done) | (rw [if_neg (by omega)]; done) | (exfalso; omega), rfl⟩
    · skip
      refine j_iload_n rfl rfl ?_
      refine j_iconst rfl ?_
      refine j_icmp_ge (tgt := 29) rfl (by decide) (by omega) (by omega) (by omega) (by omega) (fun hb10_1 => ?_) (fun hb10_1 => ?_)
      · skip
        refine j_iload_n rfl rfl ?_
        refine j_bipush rfl (by decide) ?_
        refine j_icmp_lt (tgt := 46) rfl (by decide) (by omega) (by omega) (by omega) (by omega) (fun hb32_3 => ?_) (fun hb32_3 => ?_)
        · skip
          refine j_iconst rfl ?_
          refine j_zret rfl rfl (by decide) ?_ rfl (Nat.le_refl _)
          exact ⟨by first | (rw [if_pos (by omega)]; done) | (rw [if_neg (by omega)]; done) | (exfalso; omega), rfl⟩
        · skip
          refine j_aload_n rfl rfl ?_
          refine j_iload_n rfl rfl ?_
          refine j_bipush rfl (by decide) ?_
          refine j_isub rfl ?_
          refine j_callV (ci := 11) rfl okX11_isBox c_X11_119 (ct_X11_isBox hS hI (by omega) (by omega)) rfl rfl (hS.lt (by decide)) (hS.k (by decide) (by decide)) (by decide) rfl (Nat.le_of_ble_eq_true rfl) (by decide) (by decide) ?_
          rintro vq mq ⟨e1, e2⟩
          rw [e1, e2]
          clear e1 e2
          simp only [Option.toList_some, Option.toList_none, List.cons_append, List.nil_append]
          have w5 := hI.s 0 16 (0) 6 (by decide)
          refine j_bif_ne (tgt := 48) rfl (by decide) (fun hb43_3 => ?_) (fun hb43_3 => ?_)
          · skip
            refine j_iload_n rfl rfl ?_
            refine j_if_eq (tgt := 79) rfl (by decide) (by omega) (by omega) (fun hb49_3 => ?_) (fun hb49_3 => ?_)
            · skip
              refine j_iconst rfl ?_
              refine j_goto (tgt := 84) rfl (by decide) ?_
              refine j_zret rfl rfl (by decide) ?_ rfl (Nat.le_refl _)
              exact ⟨by first | (rw [if_pos (by omega)]; done) | (rw [if_neg (by omega)]; done) | (exfalso; omega), rfl⟩
            · skip
              refine j_iload_n rfl rfl ?_
              refine j_iconst rfl ?_
              refine j_icmp_ne (tgt := 83) rfl (by decide) (by omega) (by omega) (by omega) (by omega) (fun hb54_3 => ?_) (fun hb54_3 => ?_)
              · skip
                refine j_iconst rfl ?_
                refine j_zret rfl rfl (by decide) ?_ rfl (Nat.le_refl _)
                exact ⟨by first | (rw [if_pos (by omega)]; done) | (rw [if_neg (by omega)]; done) | (exfalso; omega), rfl⟩
              · skip
                refine j_iload_n rfl rfl ?_
                refine j_if_lt (tgt := 83) rfl (by decide) (by omega) (by omega) (fun hb58_3 => ?_) (fun hb58_3 => ?_)
                · skip
                  refine j_iconst rfl ?_
                  refine j_zret rfl rfl (by decide) ?_ rfl (Nat.le_refl _)
                  exact ⟨by first | (rw [if_pos (by omega)]; done) | (rw [if_neg (by omega)]; done) | (exfalso; omega), rfl⟩
                · skip
                  refine j_aload_n rfl rfl ?_
                  refine j_iload_n rfl rfl ?_
                  refine j_bipush rfl (by decide) ?_
                  refine j_idivN rfl (by omega) (by omega) (by omega) (by omega) ?_
                  refine j_callV (ci := 11) rfl okX11_isFlight c_X11_191 (ct_X11_isFlight hS hI (by omega) (by omega)) rfl rfl (hS.lt (by decide)) (hS.k (by decide) (by decide)) (by decide) rfl (Nat.le_of_ble_eq_true rfl) (by decide) (by decide) ?_
                  rintro vq mq ⟨e1, e2⟩
                  rw [e1, e2]
                  clear e1 e2
                  simp only [Option.toList_some, Option.toList_none, List.cons_append, List.nil_append]
                  have w6 := hI.s 0 17 (0) 8 (by decide)
                  refine j_bif_eq (tgt := 83) rfl (by decide) (fun hb69_3 => ?_) (fun hb69_3 => ?_)
                  · skip
                    refine j_iconst rfl ?_
                    refine j_zret rfl rfl (by decide) ?_ rfl (Nat.le_refl _)
                    exact ⟨by first | (rw [if_pos (by omega)]; done) | (rw [if_neg (by omega)]; done) | (exfalso; omega), rfl⟩
                  · skip
                    refine j_iload_n rfl rfl ?_
                    refine j_bipush rfl (by decide) ?_
                    refine j_iremN rfl (by omega) (by omega) (by omega) (by omega) ?_
                    refine j_if_le (tgt := 83) rfl (by decide) (by omega) (by omega) (fun hb76_3 => ?_) (fun hb76_3 => ?_)
                    · skip
                      refine j_iconst rfl ?_
                      refine j_zret rfl rfl (by decide) ?_ rfl (Nat.le_refl _)
                      exact ⟨by first | (rw [if_pos (by omega)]; done) | (rw [if_neg (by omega)]; done) | (exfalso; omega), rfl⟩
                    · skip
                      refine j_iconst rfl ?_
                      refine j_goto (tgt := 84) rfl (by decide) ?_
                      refine j_zret rfl rfl (by decide) ?_ rfl (Nat.le_refl _)
                      exact ⟨by first | (rw [if_pos (by omega)]; done) | (rw [if_neg (by omega)]; done) | (exfalso; omega), rfl⟩
          · skip
            refine j_iconst rfl ?_
            refine j_zret rfl rfl (by decide) ?_ rfl (Nat.le_refl _)
            exact ⟨by first | (rw [if_pos (by omega)]; done) | (rw [if_neg (by omega)]; done) | (exfalso; omega), rfl⟩
      · skip
        refine j_iload_n rfl rfl ?_
        refine j_if_lt (tgt := 27) rfl (by decide) (by omega) (by omega) (fun hb14_1 => ?_) (fun hb14_1 => ?_)
        · skip
          refine j_iconst rfl ?_
          refine j_zret rfl rfl (by decide) ?_ rfl (Nat.le_refl _)
          exact ⟨by first | (rw [if_pos (by omega)]; done) | (rw [if_neg (by omega)]; done) | (exfalso; omega), rfl⟩
        · skip
          refine j_iload_n rfl rfl ?_
          refine j_ldc (v := 99999) rfl k_X11_162 ?_
          refine j_icmp_gt (tgt := 27) rfl (by decide) (by omega) (by omega) (by omega) (by omega) (fun hb20_1 => ?_) (fun hb20_1 => ?_)
          · skip
            refine j_iconst rfl ?_
            refine j_zret rfl rfl (by decide) ?_ rfl (Nat.le_refl _)
            exact ⟨by first | (rw [if_pos (by omega)]; done) | (rw [if_neg (by omega)]; done) | (exfalso; omega), rfl⟩
          · skip
            refine j_iconst rfl ?_
            refine j_goto (tgt := 28) rfl (by decide) ?_
            refine j_zret rfl rfl (by decide) ?_ rfl (Nat.le_refl _)
            exact ⟨by first | (rw [if_pos (by omega)]; done) | (rw [if_neg (by omega)]; done) | (exfalso; omega), rfl⟩


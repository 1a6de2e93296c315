set_option maxRecDepth 20000 in
set_option maxHeartbeats 4000000 in
theorem ct_X12_in {G : QW} {m : AM} {v : Int} {low : Int} {high : Int} (hv1 : -2147483648 ≤ v) (hv2 : v < 2147483648) (hlow1 : -2147483648 ≤ low) (hlow2 : low < 2147483648) (hhigh1 : -2147483648 ≤ high) (hhigh2 : high < 2147483648) : qM G mX12_in 0 0 0 [vI v, vI low, vI high] m (fun r m' => r = some (vI (if low ≤ v ∧ v ≤ high then 1 else 0)) ∧ m' = m) := by
  refine qM.intro okX12_in (Nat.le_of_ble_eq_true rfl) ?_
  refine j_iload_n rfl rfl ?_
  refine j_iload_n rfl rfl ?_
  refine j_icmp_lt (tgt := 14) rfl (by decide) (by omega) (by omega) (by omega) (by omega) (fun hb2_1 => ?_) (fun hb2_1 => ?_)
  · skip
    refine j_iconst rfl ?_
    refine j_zret rfl rfl (by decide) ?_ rfl (Nat.le_refl _)
    exact ⟨by first | rw [if_pos (by omega)] | rw [if_neg (by omega)], rfl⟩
  · skip
    refine j_iload_n rfl rfl ?_
    refine j_iload_n rfl rfl ?_
    refine j_icmp_gt (tgt := 14) rfl (by decide) (by omega) (by omega) (by omega) (by omega) (fun hb7_1 => ?_) (fun hb7_1 => ?_)
    · skip
      refine j_iconst rfl ?_
      refine j_zret rfl rfl (by decide) ?_ rfl (Nat.le_refl _)
      exact ⟨by first | rw [if_pos (by omega)] | rw [if_neg (by omega)], rfl⟩
    · skip
      refine j_iconst rfl ?_
      refine j_goto (tgt := 15) rfl (by decide) ?_
      refine j_zret rfl rfl (by decide) ?_ rfl (Nat.le_refl _)
      exact ⟨by first | rw [if_pos (by omega)] | rw [if_neg (by omega)], rfl⟩

set_option maxRecDepth 20000 in
set_option maxHeartbeats 4000000 in
theorem ct_X12_isTicks {G : QW} {m : AM} {n : Int} (hn1 : -2147483648 ≤ n) (hn2 : n < 2147483648) : qM G mX12_isTicks 1 0 0 [vI n] m (fun r m' => r = some (vI (if 1 ≤ n ∧ n ≤ 200 then 1 else 0)) ∧ m' = m) := by
  refine qM.intro okX12_isTicks (Nat.le_of_ble_eq_true rfl) ?_
  refine j_iload_n rfl rfl ?_
  refine j_iconst rfl ?_
  refine j_sipush rfl (by decide) ?_
  refine j_callS (As := [_, _, _]) rfl okX12_in c_X12_194 (ct_X12_in (by omega) (by omega) (by omega) (by omega) (by omega) (by omega)) rfl rfl (by decide) (by decide) (by decide) ?_
  rintro v m1 ⟨e1, e2⟩
  rw [e1, e2]
  clear e1 e2
  simp only [Option.toList_some, Option.toList_none, List.cons_append, List.nil_append]
  refine j_zret rfl rfl (by split <;> decide) ?_ rfl (Nat.le_refl _)
  exact ⟨congrArg some (congrArg vI (qite (by omega))), rfl⟩

set_option maxRecDepth 20000 in
set_option maxHeartbeats 4000000 in
theorem ct_X12_isMachine {G : QW} {m : AM} {n : Int} (hn1 : -2147483648 ≤ n) (hn2 : n < 2147483648) : qM G mX12_isMachine 1 0 0 [vI n] m (fun r m' => r = some (vI (if 0 ≤ n ∧ n ≤ 1 then 1 else 0)) ∧ m' = m) := by
  refine qM.intro okX12_isMachine (Nat.le_of_ble_eq_true rfl) ?_
  refine j_iload_n rfl rfl ?_
  refine j_iconst rfl ?_
  refine j_iconst rfl ?_
  refine j_callS (As := [_, _, _]) rfl okX12_in c_X12_194 (ct_X12_in (by omega) (by omega) (by omega) (by omega) (by omega) (by omega)) rfl rfl (by decide) (by decide) (by decide) ?_
  rintro v m1 ⟨e1, e2⟩
  rw [e1, e2]
  clear e1 e2
  simp only [Option.toList_some, Option.toList_none, List.cons_append, List.nil_append]
  refine j_zret rfl rfl (by split <;> decide) ?_ rfl (Nat.le_refl _)
  exact ⟨congrArg some (congrArg vI (qite (by omega))), rfl⟩

set_option maxRecDepth 20000 in
set_option maxHeartbeats 4000000 in
theorem ct_X12_isPerson {G : QW} {m : AM} {n : Int} (hn1 : -2147483648 ≤ n) (hn2 : n < 2147483648) : qM G mX12_isPerson 1 0 0 [vI n] m (fun r m' => r = some (vI (if 0 ≤ n ∧ n ≤ 11 then 1 else 0)) ∧ m' = m) := by
  refine qM.intro okX12_isPerson (Nat.le_of_ble_eq_true rfl) ?_
  refine j_iload_n rfl rfl ?_
  refine j_iconst rfl ?_
  refine j_bipush rfl (by decide) ?_
  refine j_callS (As := [_, _, _]) rfl okX12_in c_X12_194 (ct_X12_in (by omega) (by omega) (by omega) (by omega) (by omega) (by omega)) rfl rfl (by decide) (by decide) (by decide) ?_
  rintro v m1 ⟨e1, e2⟩
  rw [e1, e2]
  clear e1 e2
  simp only [Option.toList_some, Option.toList_none, List.cons_append, List.nil_append]
  refine j_zret rfl rfl (by split <;> decide) ?_ rfl (Nat.le_refl _)
  exact ⟨congrArg some (congrArg vI (qite (by omega))), rfl⟩

set_option maxRecDepth 20000 in
set_option maxHeartbeats 4000000 in
theorem ct_X12_isShelf {G : QW} {m : AM} {n : Int} (hn1 : -2147483648 ≤ n) (hn2 : n < 2147483648) : qM G mX12_isShelf 1 0 0 [vI n] m (fun r m' => r = some (vI (if 0 ≤ n ∧ n ≤ 5 then 1 else 0)) ∧ m' = m) := by
  refine qM.intro okX12_isShelf (Nat.le_of_ble_eq_true rfl) ?_
  refine j_iload_n rfl rfl ?_
  refine j_iconst rfl ?_
  refine j_iconst rfl ?_
  refine j_callS (As := [_, _, _]) rfl okX12_in c_X12_194 (ct_X12_in (by omega) (by omega) (by omega) (by omega) (by omega) (by omega)) rfl rfl (by decide) (by decide) (by decide) ?_
  rintro v m1 ⟨e1, e2⟩
  rw [e1, e2]
  clear e1 e2
  simp only [Option.toList_some, Option.toList_none, List.cons_append, List.nil_append]
  refine j_zret rfl rfl (by split <;> decide) ?_ rfl (Nat.le_refl _)
  exact ⟨congrArg some (congrArg vI (qite (by omega))), rfl⟩

set_option maxRecDepth 20000 in
set_option maxHeartbeats 4000000 in
theorem ct_X11_isMachine {G : QW} {m : AM} {n : Int} (hn1 : -2147483648 ≤ n) (hn2 : n < 2147483648) : qM G mX11_isMachine 0 0 0 [vI n] m (fun r m' => r = some (vI (if 0 ≤ n ∧ n ≤ 1 then 1 else 0)) ∧ m' = m) := by
  refine qM.intro okX11_isMachine (Nat.le_of_ble_eq_true rfl) ?_
  refine j_iload_n rfl rfl ?_
  refine j_if_lt (tgt := 13) rfl (by decide) (by omega) (by omega) (fun hb1_1 => ?_) (fun hb1_1 => ?_)
  · skip
    refine j_iconst rfl ?_
    refine j_zret rfl rfl (by decide) ?_ rfl (Nat.le_refl _)
    exact ⟨by first | rw [if_pos (by omega)] | rw [if_neg (by omega)], rfl⟩
  · skip
    refine j_iload_n rfl rfl ?_
    refine j_iconst rfl ?_
    refine j_icmp_ge (tgt := 13) rfl (by decide) (by omega) (by omega) (by omega) (by omega) (fun hb6_1 => ?_) (fun hb6_1 => ?_)
    · skip
      refine j_iconst rfl ?_
      refine j_zret rfl rfl (by decide) ?_ rfl (Nat.le_refl _)
      exact ⟨by first | rw [if_pos (by omega)] | rw [if_neg (by omega)], rfl⟩
    · skip
      refine j_iconst rfl ?_
      refine j_goto (tgt := 14) rfl (by decide) ?_
      refine j_zret rfl rfl (by decide) ?_ rfl (Nat.le_refl _)
      exact ⟨by first | rw [if_pos (by omega)] | rw [if_neg (by omega)], rfl⟩

set_option maxRecDepth 20000 in
set_option maxHeartbeats 4000000 in
theorem ct_X11_isTick {G : QW} {m : AM} {n : Int} (hn1 : -2147483648 ≤ n) (hn2 : n < 2147483648) : qM G mX11_isTick 0 0 0 [vI n] m (fun r m' => r = some (vI (if 0 ≤ n ∧ n ≤ 199 then 1 else 0)) ∧ m' = m) := by
  refine qM.intro okX11_isTick (Nat.le_of_ble_eq_true rfl) ?_
  refine j_iload_n rfl rfl ?_
  refine j_if_lt (tgt := 15) rfl (by decide) (by omega) (by omega) (fun hb1_1 => ?_) (fun hb1_1 => ?_)
  · skip
    refine j_iconst rfl ?_
    refine j_zret rfl rfl (by decide) ?_ rfl (Nat.le_refl _)
    exact ⟨by first | rw [if_pos (by omega)] | rw [if_neg (by omega)], rfl⟩
  · skip
    refine j_iload_n rfl rfl ?_
    refine j_sipush rfl (by decide) ?_
    refine j_icmp_ge (tgt := 15) rfl (by decide) (by omega) (by omega) (by omega) (by omega) (fun hb8_1 => ?_) (fun hb8_1 => ?_)
    · skip
      refine j_iconst rfl ?_
      refine j_zret rfl rfl (by decide) ?_ rfl (Nat.le_refl _)
      exact ⟨by first | rw [if_pos (by omega)] | rw [if_neg (by omega)], rfl⟩
    · skip
      refine j_iconst rfl ?_
      refine j_goto (tgt := 16) rfl (by decide) ?_
      refine j_zret rfl rfl (by decide) ?_ rfl (Nat.le_refl _)
      exact ⟨by first | rw [if_pos (by omega)] | rw [if_neg (by omega)], rfl⟩

set_option maxRecDepth 20000 in
set_option maxHeartbeats 4000000 in
theorem ct_X11_isTicks {G : QW} {m : AM} {n : Int} (hn1 : -2147483648 ≤ n) (hn2 : n < 2147483648) : qM G mX11_isTicks 0 0 0 [vI n] m (fun r m' => r = some (vI (if 1 ≤ n ∧ n ≤ 200 then 1 else 0)) ∧ m' = m) := by
  refine qM.intro okX11_isTicks (Nat.le_of_ble_eq_true rfl) ?_
  refine j_iload_n rfl rfl ?_
  refine j_iconst rfl ?_
  refine j_icmp_lt (tgt := 16) rfl (by decide) (by omega) (by omega) (by omega) (by omega) (fun hb2_1 => ?_) (fun hb2_1 => ?_)
  · skip
    refine j_iconst rfl ?_
    refine j_zret rfl rfl (by decide) ?_ rfl (Nat.le_refl _)
    exact ⟨by first | rw [if_pos (by omega)] | rw [if_neg (by omega)], rfl⟩
  · skip
    refine j_iload_n rfl rfl ?_
    refine j_sipush rfl (by decide) ?_
    refine j_icmp_gt (tgt := 16) rfl (by decide) (by omega) (by omega) (by omega) (by omega) (fun hb9_1 => ?_) (fun hb9_1 => ?_)
    · skip
      refine j_iconst rfl ?_
      refine j_zret rfl rfl (by decide) ?_ rfl (Nat.le_refl _)
      exact ⟨by first | rw [if_pos (by omega)] | rw [if_neg (by omega)], rfl⟩
    · skip
      refine j_iconst rfl ?_
      refine j_goto (tgt := 17) rfl (by decide) ?_
      refine j_zret rfl rfl (by decide) ?_ rfl (Nat.le_refl _)
      exact ⟨by first | rw [if_pos (by omega)] | rw [if_neg (by omega)], rfl⟩

set_option maxRecDepth 20000 in
set_option maxHeartbeats 4000000 in
theorem ct_X11_isShelf {G : QW} {m : AM} {n : Int} (hn1 : -2147483648 ≤ n) (hn2 : n < 2147483648) : qM G mX11_isShelf 0 0 0 [vI n] m (fun r m' => r = some (vI (if 0 ≤ n ∧ n ≤ 5 then 1 else 0)) ∧ m' = m) := by
  refine qM.intro okX11_isShelf (Nat.le_of_ble_eq_true rfl) ?_
  refine j_iload_n rfl rfl ?_
  refine j_if_lt (tgt := 14) rfl (by decide) (by omega) (by omega) (fun hb1_1 => ?_) (fun hb1_1 => ?_)
  · skip
    refine j_iconst rfl ?_
    refine j_zret rfl rfl (by decide) ?_ rfl (Nat.le_refl _)
    exact ⟨by first | rw [if_pos (by omega)] | rw [if_neg (by omega)], rfl⟩
  · skip
    refine j_iload_n rfl rfl ?_
    refine j_bipush rfl (by decide) ?_
    refine j_icmp_ge (tgt := 14) rfl (by decide) (by omega) (by omega) (by omega) (by omega) (fun hb7_1 => ?_) (fun hb7_1 => ?_)
    · skip
      refine j_iconst rfl ?_
      refine j_zret rfl rfl (by decide) ?_ rfl (Nat.le_refl _)
      exact ⟨by first | rw [if_pos (by omega)] | rw [if_neg (by omega)], rfl⟩
    · skip
      refine j_iconst rfl ?_
      refine j_goto (tgt := 15) rfl (by decide) ?_
      refine j_zret rfl rfl (by decide) ?_ rfl (Nat.le_refl _)
      exact ⟨by first | rw [if_pos (by omega)] | rw [if_neg (by omega)], rfl⟩

set_option maxRecDepth 20000 in
set_option maxHeartbeats 4000000 in
theorem ct_X12_isBox {G : QW} {m : AM} (hS : St m) {b : Int} (hb1 : -2147483648 ≤ b) (hb2 : b < 2147483648) (h3 : 0 ≤ mi m 86 1) (h4 : mi m 86 1 ≤ 6) : qM G mX12_isBox 1 0 0 [vR 86, vI b] m (fun r m' => r = some (vI (if 0 ≤ b ∧ b < mi m 86 1 then 1 else 0)) ∧ m' = m) := by
  refine qM.intro okX12_isBox (Nat.le_of_ble_eq_true rfl) ?_
  refine j_iload_n rfl rfl ?_
  refine j_iconst rfl ?_
  refine j_aload_n rfl rfl ?_
  refine j_getI rfl f_X12_191 rfl (hS.lt (by decide)) (hS.k (by decide) (by decide)) ?_
  have u3_1 := mi_rng m 86 1
  refine j_iconst rfl ?_
  refine j_isub rfl ?_
  refine j_callS (As := [_, _, _]) rfl okX12_in c_X12_194 (ct_X12_in (by omega) (by omega) (by omega) (by omega) (by omega) (by omega)) rfl rfl (by decide) (by decide) (by decide) ?_
  rintro v m1 ⟨e1, e2⟩
  rw [e1, e2]
  clear e1 e2
  simp only [Option.toList_some, Option.toList_none, List.cons_append, List.nil_append]
  refine j_zret rfl rfl (by split <;> decide) ?_ rfl (Nat.le_refl _)
  exact ⟨congrArg some (congrArg vI (qite (by omega))), rfl⟩

set_option maxRecDepth 20000 in
set_option maxHeartbeats 4000000 in
theorem ct_X11_isBox {G : QW} {m : AM} (hS : St m) {b : Int} (hb1 : -2147483648 ≤ b) (hb2 : b < 2147483648) (h3 : 0 ≤ mi m 0 16) (h4 : mi m 0 16 ≤ 6) : qM G mX11_isBox 0 0 0 [vR 0, vI b] m (fun r m' => r = some (vI (if 0 ≤ b ∧ b < mi m 0 16 then 1 else 0)) ∧ m' = m) := by
  refine qM.intro okX11_isBox (Nat.le_of_ble_eq_true rfl) ?_
  refine j_iload_n rfl rfl ?_
  refine j_if_lt (tgt := 16) rfl (by decide) (by omega) (by omega) (fun hb1_1 => ?_) (fun hb1_1 => ?_)
  · skip
    refine j_iconst rfl ?_
    refine j_zret rfl rfl (by decide) ?_ rfl (Nat.le_refl _)
    exact ⟨by first | rw [if_pos (by omega)] | rw [if_neg (by omega)], rfl⟩
  · skip
    refine j_iload_n rfl rfl ?_
    refine j_aload_n rfl rfl ?_
    refine j_getI rfl f_X11_113 rfl (hS.lt (by decide)) (hS.k (by decide) (by decide)) ?_
    have u6_1 := mi_rng m 0 16
    refine j_icmp_ge (tgt := 16) rfl (by decide) (by omega) (by omega) (by omega) (by omega) (fun hb9_1 => ?_) (fun hb9_1 => ?_)
    · skip
      refine j_iconst rfl ?_
      refine j_zret rfl rfl (by decide) ?_ rfl (Nat.le_refl _)
      exact ⟨by first | rw [if_pos (by omega)] | rw [if_neg (by omega)], rfl⟩
    · skip
      refine j_iconst rfl ?_
      refine j_goto (tgt := 17) rfl (by decide) ?_
      refine j_zret rfl rfl (by decide) ?_ rfl (Nat.le_refl _)
      exact ⟨by first | rw [if_pos (by omega)] | rw [if_neg (by omega)], rfl⟩

set_option maxRecDepth 20000 in
set_option maxHeartbeats 4000000 in
theorem ct_X11_isFlight {G : QW} {m : AM} (hS : St m) {f : Int} (hf1 : -2147483648 ≤ f) (hf2 : f < 2147483648) (h3 : 0 ≤ mi m 0 17) (h4 : mi m 0 17 ≤ 8) : qM G mX11_isFlight 0 0 0 [vR 0, vI f] m (fun r m' => r = some (vI (if 0 ≤ f ∧ f < mi m 0 17 then 1 else 0)) ∧ m' = m) := by
  refine qM.intro okX11_isFlight (Nat.le_of_ble_eq_true rfl) ?_
  refine j_iload_n rfl rfl ?_
  refine j_if_lt (tgt := 16) rfl (by decide) (by omega) (by omega) (fun hb1_1 => ?_) (fun hb1_1 => ?_)
  · skip
    refine j_iconst rfl ?_
    refine j_zret rfl rfl (by decide) ?_ rfl (Nat.le_refl _)
    exact ⟨by first | rw [if_pos (by omega)] | rw [if_neg (by omega)], rfl⟩
  · skip
    refine j_iload_n rfl rfl ?_
    refine j_aload_n rfl rfl ?_
    refine j_getI rfl f_X11_156 rfl (hS.lt (by decide)) (hS.k (by decide) (by decide)) ?_
    have u6_1 := mi_rng m 0 17
    refine j_icmp_ge (tgt := 16) rfl (by decide) (by omega) (by omega) (by omega) (by omega) (fun hb9_1 => ?_) (fun hb9_1 => ?_)
    · skip
      refine j_iconst rfl ?_
      refine j_zret rfl rfl (by decide) ?_ rfl (Nat.le_refl _)
      exact ⟨by first | rw [if_pos (by omega)] | rw [if_neg (by omega)], rfl⟩
    · skip
      refine j_iconst rfl ?_
      refine j_goto (tgt := 17) rfl (by decide) ?_
      refine j_zret rfl rfl (by decide) ?_ rfl (Nat.le_refl _)
      exact ⟨by first | rw [if_pos (by omega)] | rw [if_neg (by omega)], rfl⟩


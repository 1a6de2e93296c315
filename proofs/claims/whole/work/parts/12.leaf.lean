def FX12_in (m : AM) (v : Int) (low : Int) (high : Int) : Int :=
  if v < low then
    0
  else
    if v > high then
      0
    else
      1
set_option maxRecDepth 20000 in
set_option maxHeartbeats 4000000 in
theorem ct_X12_in {G : QW} {m : AM} {v : Int} {low : Int} {high : Int} (hv1 : -2147483648 ≤ v) (hv2 : v < 2147483648) (hlow1 : -2147483648 ≤ low) (hlow2 : low < 2147483648) (hhigh1 : -2147483648 ≤ high) (hhigh2 : high < 2147483648) : qM G mX12_in 0 0 0 [vI v, vI low, vI high] m (fun r m' => r = some (vI (FX12_in m v low high)) ∧ m' = m) := by
  refine qM.intro okX12_in (Nat.le_of_ble_eq_true rfl) ?_
  refine j_iload_n rfl rfl ?_
  refine j_iload_n rfl rfl ?_
  refine j_icmp_lt (tgt := 14) rfl (by decide) (by omega) (by omega) (by omega) (by omega) (fun hb2_1 => ?_) (fun hb2_1 => ?_)
  · skip
    refine j_iconst rfl ?_
    refine j_zret rfl rfl (by first | decide | omega | (split <;> decide)) ?_ rfl (Nat.le_refl _)
    unfold FX12_in
    rw [if_pos hb2_1]
    exact ⟨rfl, rfl⟩
  · skip
    refine j_iload_n rfl rfl ?_
    refine j_iload_n rfl rfl ?_
    refine j_icmp_gt (tgt := 14) rfl (by decide) (by omega) (by omega) (by omega) (by omega) (fun hb7_1 => ?_) (fun hb7_1 => ?_)
    · skip
      refine j_iconst rfl ?_
      refine j_zret rfl rfl (by first | decide | omega | (split <;> decide)) ?_ rfl (Nat.le_refl _)
      unfold FX12_in
      rw [if_neg hb2_1, if_pos hb7_1]
      exact ⟨rfl, rfl⟩
    · skip
      refine j_iconst rfl ?_
      refine j_goto (tgt := 15) rfl (by decide) ?_
      refine j_zret rfl rfl (by first | decide | omega | (split <;> decide)) ?_ rfl (Nat.le_refl _)
      unfold FX12_in
      rw [if_neg hb2_1, if_neg hb7_1]
      exact ⟨rfl, rfl⟩

theorem FX12_in_01 (m : AM) (v : Int) (low : Int) (high : Int) : 0 ≤ FX12_in m v low high ∧ FX12_in m v low high ≤ 1 := by
  unfold FX12_in
  repeat' split
  all_goals decide

def FX12_isMuch (m : AM) (v : Int) : Int :=
  if v > 1000000000 then
    1
  else
    if v ≥ (-1000000000) then
      0
    else
      1
set_option maxRecDepth 20000 in
set_option maxHeartbeats 4000000 in
theorem ct_X12_isMuch {G : QW} {m : AM} {v : Int} (h3 : -9223372036854775808 ≤ v) (h4 : v < 9223372036854775808) : qM G mX12_isMuch 0 0 0 [vL v] m (fun r m' => r = some (vI (FX12_isMuch m v)) ∧ m' = m) := by
  refine qM.intro okX12_isMuch (Nat.le_of_ble_eq_true rfl) ?_
  refine j_lload_n rfl rfl ?_
  refine j_ldc2 (v := 1000000000) rfl k_X12_312 ?_
  refine j_lc_gt (tgt := 16) rfl rfl (by decide) (by omega) (by omega) (by omega) (by omega) (fun hb4_1 => ?_) (fun hb4_1 => ?_)
  · skip
    refine j_iconst rfl ?_
    refine j_goto (tgt := 21) rfl (by decide) ?_
    refine j_zret rfl rfl (by first | decide | omega | (split <;> decide)) ?_ rfl (Nat.le_refl _)
    unfold FX12_isMuch
    rw [if_pos hb4_1]
    exact ⟨rfl, rfl⟩
  · skip
    refine j_lload_n rfl rfl ?_
    refine j_ldc2 (v := -1000000000) rfl k_X12_314 ?_
    refine j_lc_ge (tgt := 20) rfl rfl (by decide) (by omega) (by omega) (by omega) (by omega) (fun hb12_1 => ?_) (fun hb12_1 => ?_)
    · skip
      refine j_iconst rfl ?_
      refine j_zret rfl rfl (by first | decide | omega | (split <;> decide)) ?_ rfl (Nat.le_refl _)
      unfold FX12_isMuch
      rw [if_neg hb4_1, if_pos hb12_1]
      exact ⟨rfl, rfl⟩
    · skip
      refine j_iconst rfl ?_
      refine j_goto (tgt := 21) rfl (by decide) ?_
      refine j_zret rfl rfl (by first | decide | omega | (split <;> decide)) ?_ rfl (Nat.le_refl _)
      unfold FX12_isMuch
      rw [if_neg hb4_1, if_neg hb12_1]
      exact ⟨rfl, rfl⟩

def FX12_lesser (m : AM) (a : Int) (b : Int) : Int :=
  if a ≥ b then
    b
  else
    a
set_option maxRecDepth 20000 in
set_option maxHeartbeats 4000000 in
theorem ct_X12_lesser {G : QW} {m : AM} {a : Int} {b : Int} (h3 : -9223372036854775808 ≤ a) (h4 : a < 9223372036854775808) (h5 : -9223372036854775808 ≤ b) (h6 : b < 9223372036854775808) : qM G mX12_lesser 0 0 0 [vL a, vL b] m (fun r m' => r = some (vL (FX12_lesser m a b)) ∧ m' = m) := by
  refine qM.intro okX12_lesser (Nat.le_of_ble_eq_true rfl) ?_
  refine j_lload_n rfl rfl ?_
  refine j_lload_n rfl rfl ?_
  refine j_lc_ge (tgt := 10) rfl rfl (by decide) (by omega) (by omega) (by omega) (by omega) (fun hb2_1 => ?_) (fun hb2_1 => ?_)
  · skip
    refine j_lload_n rfl rfl ?_
    refine j_lret rfl rfl ?_ rfl (Nat.le_refl _)
    unfold FX12_lesser
    rw [if_pos hb2_1]
    exact ⟨rfl, rfl⟩
  · skip
    refine j_lload_n rfl rfl ?_
    refine j_goto (tgt := 11) rfl (by decide) ?_
    refine j_lret rfl rfl ?_ rfl (Nat.le_refl _)
    unfold FX12_lesser
    rw [if_neg hb2_1]
    exact ⟨rfl, rfl⟩

def FX12_greater (m : AM) (a : Int) (b : Int) : Int :=
  if a ≤ b then
    b
  else
    a
set_option maxRecDepth 20000 in
set_option maxHeartbeats 4000000 in
theorem ct_X12_greater {G : QW} {m : AM} {a : Int} {b : Int} (h3 : -9223372036854775808 ≤ a) (h4 : a < 9223372036854775808) (h5 : -9223372036854775808 ≤ b) (h6 : b < 9223372036854775808) : qM G mX12_greater 0 0 0 [vL a, vL b] m (fun r m' => r = some (vL (FX12_greater m a b)) ∧ m' = m) := by
  refine qM.intro okX12_greater (Nat.le_of_ble_eq_true rfl) ?_
  refine j_lload_n rfl rfl ?_
  refine j_lload_n rfl rfl ?_
  refine j_lc_le (tgt := 10) rfl rfl (by decide) (by omega) (by omega) (by omega) (by omega) (fun hb2_1 => ?_) (fun hb2_1 => ?_)
  · skip
    refine j_lload_n rfl rfl ?_
    refine j_lret rfl rfl ?_ rfl (Nat.le_refl _)
    unfold FX12_greater
    rw [if_pos hb2_1]
    exact ⟨rfl, rfl⟩
  · skip
    refine j_lload_n rfl rfl ?_
    refine j_goto (tgt := 11) rfl (by decide) ?_
    refine j_lret rfl rfl ?_ rfl (Nat.le_refl _)
    unfold FX12_greater
    rw [if_neg hb2_1]
    exact ⟨rfl, rfl⟩

def FX12_isBox (m : AM) (b : Int) : Int :=
  FX12_in m b 0 ((mi m 86 1) - 1)
set_option maxRecDepth 20000 in
set_option maxHeartbeats 4000000 in
theorem ct_X12_isBox {G : QW} {m : AM} (hS : St m) {b : Int} (hb1 : -2147483648 ≤ b) (hb2 : b < 2147483648) (h3 : 0 ≤ mi m 86 1) (h4 : mi m 86 1 ≤ 6) : qM G mX12_isBox 1 0 0 [vR 86, vI b] m (fun r m' => r = some (vI (FX12_isBox m b)) ∧ m' = m) := by
  refine qM.intro okX12_isBox (Nat.le_of_ble_eq_true rfl) ?_
  refine j_iload_n rfl rfl ?_
  refine j_iconst rfl ?_
  refine j_aload_n rfl rfl ?_
  refine j_getI rfl f_X12_191 rfl (hS.lt (by decide)) (hS.k (by decide) (by decide)) ?_
  refine j_iconst rfl ?_
  refine j_isub rfl ?_
  refine j_callS (As := [_, _, _]) rfl okX12_in c_X12_194 (ct_X12_in (by omega) (by omega) (by omega) (by omega) (by omega) (by omega)) rfl rfl (by decide) (by decide) (by decide) ?_
  rintro v m1 ⟨rfl, rfl⟩
  simp only [Option.toList_some, Option.toList_none, List.cons_append, List.nil_append]
  have h01 := FX12_in_01 m b 0 ((mi m 86 1) - 1)
  refine j_zret rfl rfl (by first | decide | omega | (split <;> decide)) ?_ rfl (Nat.le_refl _)
  unfold FX12_isBox
  exact ⟨rfl, rfl⟩


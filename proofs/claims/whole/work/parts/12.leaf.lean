set_option maxRecDepth 20000 in
set_option maxHeartbeats 4000000 in
theorem ct_X12_in {G : QW} {m : AM} {v low high : Int} (d : Nat) (hv1 : -2147483648 ≤ v) (hv2 : v < 2147483648) (hlow1 : -2147483648 ≤ low) (hlow2 : low < 2147483648) (hhigh1 : -2147483648 ≤ high) (hhigh2 : high < 2147483648) : qM G mX12_in d 0 0 [vI v, vI low, vI high] m (fun r m' => r = some (vI (if low ≤ v ∧ v ≤ high then 1 else 0)) ∧ m' = m) := by
  refine qM.intro okX12_in (Nat.le_of_ble_eq_true rfl) ?_
  refine j_iload_n rfl rfl ?_
  refine j_iload_n rfl rfl ?_
  refine j_icmp_lt (tgt := 14) rfl (by decide) (by omega) (by omega) (by omega) (by omega) (fun hb2_1 => ?_) (fun hb2_1 => ?_)
  · skip
    refine j_iconst rfl ?_
    refine j_zret rfl rfl (by first | decide | omega | (split <;> decide)) ?_ rfl (Nat.le_refl _)
    exact ⟨by first | rfl | rw [if_pos (by omega)] | rw [if_neg (by omega)], rfl⟩
  · skip
    refine j_iload_n rfl rfl ?_
    refine j_iload_n rfl rfl ?_
    refine j_icmp_gt (tgt := 14) rfl (by decide) (by omega) (by omega) (by omega) (by omega) (fun hb7_1 => ?_) (fun hb7_1 => ?_)
    · skip
      refine j_iconst rfl ?_
      refine j_zret rfl rfl (by first | decide | omega | (split <;> decide)) ?_ rfl (Nat.le_refl _)
      exact ⟨by first | rfl | rw [if_pos (by omega)] | rw [if_neg (by omega)], rfl⟩
    · skip
      refine j_iconst rfl ?_
      refine j_goto (tgt := 15) rfl (by decide) ?_
      refine j_zret rfl rfl (by first | decide | omega | (split <;> decide)) ?_ rfl (Nat.le_refl _)
      exact ⟨by first | rfl | rw [if_pos (by omega)] | rw [if_neg (by omega)], rfl⟩

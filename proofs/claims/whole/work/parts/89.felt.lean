theorem min_rng (m : AM) (a b : Int) : (FJ9_min_7cf53 m a b = a ∨ FJ9_min_7cf53 m a b = b) := by unfold FJ9_min_7cf53; split <;> simp

/-- what is felt at a tick -/
def FX3_feltAt (m : AM) (o : Nat) (k t : Int) : Int :=
  if (mi m (o + 4) k.toNat) ≠ 0 then
    if (mi m (o + 4) k.toNat) ≤ 0 then
      (FJ9_max_7cf53 m (-(mi m (o + 3) k.toNat)) (FJ9_min_7cf53 m (mi m (o + 3) k.toNat) ((mi m (o + 1) k.toNat) + (t * (mi m (o + 2) k.toNat)))))
    else
      if t ≥ (mi m (o + 4) k.toNat) then
        mi m (o + 6 + k.toNat) ((mi m (o + 4) k.toNat) - 1).toNat
      else
        mi m (o + 6 + k.toNat) t.toNat
  else
    0

set_option maxRecDepth 20000 in
set_option maxHeartbeats 4000000 in
theorem ct_X3_feltAt {G : QW} {m : AM} {o : Nat} {k t : Int} (hO : ObA m o 3 fsFlight) (hR : mr m (o + 5) k.toNat = some (o + 6 + k.toNat) ∧ o + 6 + k.toNat < mz m ∧ mk m (o + 6 + k.toNat) = 13 ∧ mn m (o + 6 + k.toNat) = 60) (hk : 0 ≤ k ∧ k ≤ 2) (ht : 0 ≤ t ∧ t ≤ 4096) (hn : mi m (o + 4) k.toNat ≤ 60) (hc : 0 ≤ mi m (o + 3) k.toNat) (hv : -2147483648 ≤ mi m (o + 1) k.toNat + t * (mi m (o + 2) k.toNat) ∧ mi m (o + 1) k.toNat + t * (mi m (o + 2) k.toNat) < 2147483648) : qM G mX3_feltAt 1 0 0 [vR o, vI k, vI t] m (fun r m' => r = some (vI (FX3_feltAt m o k t)) ∧ m' = m) := by
  refine qM.intro okX3_feltAt (Nat.le_of_ble_eq_true rfl) ?_
  refine j_aload_n rfl rfl ?_
  refine j_getR (q := (o + 4)) rfl f_X3_21 rfl hO.1 hO.2.1 (hO.q 3 4 13 3 (by decide)).1 ?_
  refine j_iload_n rfl rfl ?_
  refine j_iald (n := 3) rfl (hO.q 3 4 13 3 (by decide)).2.1 (hO.q 3 4 13 3 (by decide)).2.2.1 (hO.q 3 4 13 3 (by decide)).2.2.2 (by omega) (by omega) (by decide) ?_
  have u5_1 := mi_rng m (o + 4) k.toNat
  refine j_istore_n rfl (by decide) ?_
  refine j_iload_n rfl rfl ?_
  refine j_if_ne (tgt := 13) rfl (by decide) (by omega) (by omega) (fun hb8_1 => ?_) (fun hb8_1 => ?_)
  · skip
    refine j_iload_n rfl rfl ?_
    refine j_if_le (tgt := 37) rfl (by decide) (by omega) (by omega) (fun hb14_1 => ?_) (fun hb14_1 => ?_)
    · skip
      refine j_aload_n rfl rfl ?_
      refine j_getR (q := (o + 1)) rfl f_X3_9 rfl hO.1 hO.2.1 (hO.q 0 1 13 3 (by decide)).1 ?_
      refine j_iload_n rfl rfl ?_
      refine j_iald (n := 3) rfl (hO.q 0 1 13 3 (by decide)).2.1 (hO.q 0 1 13 3 (by decide)).2.2.1 (hO.q 0 1 13 3 (by decide)).2.2.2 (by omega) (by omega) (by decide) ?_
      have u42_1 := mi_rng m (o + 1) k.toNat
      refine j_iload_n rfl rfl ?_
      refine j_aload_n rfl rfl ?_
      refine j_getR (q := (o + 2)) rfl f_X3_15 rfl hO.1 hO.2.1 (hO.q 1 2 13 3 (by decide)).1 ?_
      refine j_iload_n rfl rfl ?_
      refine j_iald (n := 3) rfl (hO.q 1 2 13 3 (by decide)).2.1 (hO.q 1 2 13 3 (by decide)).2.2.1 (hO.q 1 2 13 3 (by decide)).2.2.2 (by omega) (by omega) (by decide) ?_
      have u49_1 := mi_rng m (o + 2) k.toNat
      refine j_imul rfl ?_
      refine j_iadd rfl ?_
      refine j_istore rfl (by decide) ?_
      refine j_aload_n rfl rfl ?_
      refine j_getR (q := (o + 3)) rfl f_X3_18 rfl hO.1 hO.2.1 (hO.q 2 3 13 3 (by decide)).1 ?_
      refine j_iload_n rfl rfl ?_
      refine j_iald (n := 3) rfl (hO.q 2 3 13 3 (by decide)).2.1 (hO.q 2 3 13 3 (by decide)).2.2.1 (hO.q 2 3 13 3 (by decide)).2.2.2 (by omega) (by omega) (by decide) ?_
      have u59_1 := mi_rng m (o + 3) k.toNat
      refine j_ineg rfl ?_
      refine j_aload_n rfl rfl ?_
      refine j_getR (q := (o + 3)) rfl f_X3_18 rfl hO.1 hO.2.1 (hO.q 2 3 13 3 (by decide)).1 ?_
      refine j_iload_n rfl rfl ?_
      refine j_iald (n := 3) rfl (hO.q 2 3 13 3 (by decide)).2.1 (hO.q 2 3 13 3 (by decide)).2.2.1 (hO.q 2 3 13 3 (by decide)).2.2.2 (by omega) (by omega) (by decide) ?_
      have u66_1 := mi_rng m (o + 3) k.toNat
      refine j_iload rfl rfl ?_
      refine j_callS (As := [_, _]) rfl okJ9_min_7cf53 c_X3_56 (ct_J9_min_7cf53 (by omega) (by omega) (by omega) (by omega)) rfl rfl (Nat.le_of_ble_eq_true rfl) (by decide) (by decide) ?_
      rintro vq mq ⟨e1, e2⟩
      rw [e1, e2]
      clear e1 e2
      simp only [Option.toList_some, Option.toList_none, List.cons_append, List.nil_append]
      have hmn := min_rng m (mi m (o + 3) k.toNat) ((mi m (o + 1) k.toNat) + (t * (mi m (o + 2) k.toNat)))
      refine j_callS (As := [_, _]) rfl okJ9_max_7cf53 c_X3_62 (ct_J9_max_7cf53 (by omega) (by omega) (by omega) (by omega)) rfl rfl (Nat.le_of_ble_eq_true rfl) (by decide) (by decide) ?_
      rintro vq mq ⟨e1, e2⟩
      rw [e1, e2]
      clear e1 e2
      simp only [Option.toList_some, Option.toList_none, List.cons_append, List.nil_append]
      refine j_iret rfl rfl ?_ rfl (Nat.le_refl _)
      unfold FX3_feltAt
      rw [if_pos hb8_1, if_pos hb14_1]
      exact ⟨rfl, rfl⟩
    · skip
      refine j_aload_n rfl rfl ?_
      refine j_getR (q := (o + 5)) rfl f_X3_26 rfl hO.1 hO.2.1 (hO.q 4 5 20 3 (by decide)).1 ?_
      refine j_iload_n rfl rfl ?_
      refine j_aald2 (n := 3) (v := (o + 6 + k.toNat)) rfl (hO.q 4 5 20 3 (by decide)).2.1 (hO.q 4 5 20 3 (by decide)).2.2.1 (hO.q 4 5 20 3 (by decide)).2.2.2 (by omega) (by omega) (by decide) hR.1 ?_
      refine j_iload_n rfl rfl ?_
      refine j_iload_n rfl rfl ?_
      refine j_icmp_ge (tgt := 32) rfl (by decide) (by omega) (by omega) (by omega) (by omega) (fun hb25_1 => ?_) (fun hb25_1 => ?_)
      · skip
        refine j_iload_n rfl rfl ?_
        refine j_iconst rfl ?_
        refine j_isub rfl ?_
        refine j_iald (n := 60) rfl hR.2.1 hR.2.2.1 hR.2.2.2 (by omega) (by omega) (by decide) ?_
        have u35_1 := mi_rng m (o + 6 + k.toNat) ((mi m (o + 4) k.toNat) - 1).toNat
        refine j_iret rfl rfl ?_ rfl (Nat.le_refl _)
        unfold FX3_feltAt
        rw [if_pos hb8_1, if_neg hb14_1, if_pos hb25_1]
        exact ⟨rfl, rfl⟩
      · skip
        refine j_iload_n rfl rfl ?_
        refine j_goto (tgt := 35) rfl (by decide) ?_
        refine j_iald (n := 60) rfl hR.2.1 hR.2.2.1 hR.2.2.2 (by omega) (by omega) (by decide) ?_
        have u35_2 := mi_rng m (o + 6 + k.toNat) t.toNat
        refine j_iret rfl rfl ?_ rfl (Nat.le_refl _)
        unfold FX3_feltAt
        rw [if_pos hb8_1, if_neg hb14_1, if_neg hb25_1]
        exact ⟨rfl, rfl⟩
  · skip
    refine j_iconst rfl ?_
    refine j_iret rfl rfl ?_ rfl (Nat.le_refl _)
    unfold FX3_feltAt
    rw [if_neg (not_not_intro hb8_1)]
    exact ⟨rfl, rfl⟩


def FX7_feltFrom (m : AM) (o : Nat) (i : Int) : Int :=
  if (mi m (o + 2) i.toNat) ≠ 1 then
    z_l2i (FJ9_max_f86c9 m (-99999) (FJ9_min_f86c9 m 99999 (z_lshr (ml m (o + 1) i.toNat) 2)))
  else
    0
set_option maxRecDepth 20000 in
set_option maxHeartbeats 4000000 in
theorem ct_X7_feltFrom {G : QW} {m : AM} {o : Nat} {i : Int} (hi1 : -2147483648 ≤ i) (hi2 : i < 2147483648) (hO : ObA m o 7 fsShelf) (h3 : 0 ≤ i ∧ i ≤ 59) : qM G mX7_feltFrom 1 0 0 [vR o, vI i] m (fun r m' => r = some (vI (FX7_feltFrom m o i)) ∧ m' = m) := by
  refine qM.intro okX7_feltFrom (Nat.le_of_ble_eq_true rfl) ?_
  refine j_aload_n rfl rfl ?_
  refine j_getR (q := (o + 2)) rfl f_X7_15 rfl hO.1 hO.2.1 (hO.q 1 2 15 60 (by decide)).1 ?_
  refine j_iload_n rfl rfl ?_
  refine j_bald (n := 60) rfl (hO.q 1 2 15 60 (by decide)).2.1 (hO.q 1 2 15 60 (by decide)).2.2.1 (hO.q 1 2 15 60 (by decide)).2.2.2 (by omega) (by omega) (by decide) ?_
  have u5_1 := mi_rng m (o + 2) i.toNat
  refine j_iconst rfl ?_
  refine j_icmp_ne (tgt := 14) rfl (by decide) (by omega) (by omega) (by omega) (by omega) (fun hb7_1 => ?_) (fun hb7_1 => ?_)
  · skip
    refine j_ldc2 (v := -99999) rfl k_X7_42 ?_
    refine j_ldc2 (v := 99999) rfl k_X7_44 ?_
    refine j_aload_n rfl rfl ?_
    refine j_getR (q := (o + 1)) rfl f_X7_9 rfl hO.1 hO.2.1 (hO.q 0 1 14 60 (by decide)).1 ?_
    refine j_iload_n rfl rfl ?_
    refine j_lald (n := 60) rfl (hO.q 0 1 14 60 (by decide)).2.1 (hO.q 0 1 14 60 (by decide)).2.2.1 (hO.q 0 1 14 60 (by decide)).2.2.2 (by omega) (by omega) (by decide) ?_
    have u25_1 := ml_rng m (o + 1) i.toNat
    refine j_iconst rfl ?_
    refine j_lshr rfl ?_
    have z27_1 := z_lshr_rng (ml m (o + 1) i.toNat) 2
    refine j_callS (As := [_, _]) rfl okJ9_min_f86c9 c_X7_46 (ct_J9_min_f86c9 (by omega) (by omega) (by omega) (by omega)) rfl rfl (Nat.le_of_ble_eq_true rfl) (by decide) (by decide) ?_
    rintro vq mq ⟨e1, e2⟩
    rw [e1, e2]
    clear e1 e2
    simp only [Option.toList_some, Option.toList_none, List.cons_append, List.nil_append]
    have hmn := minL_rng m 99999 (z_lshr (ml m (o + 1) i.toNat) 2)
    refine j_callS (As := [_, _]) rfl okJ9_max_f86c9 c_X7_52 (ct_J9_max_f86c9 (by omega) (by omega) (by omega) (by omega)) rfl rfl (Nat.le_of_ble_eq_true rfl) (by decide) (by decide) ?_
    rintro vq mq ⟨e1, e2⟩
    rw [e1, e2]
    clear e1 e2
    simp only [Option.toList_some, Option.toList_none, List.cons_append, List.nil_append]
    have hmx := maxL_rng m (-99999) (FJ9_min_f86c9 m 99999 (z_lshr (ml m (o + 1) i.toNat) 2))
    refine j_l2iW rfl ?_
    have z34_1 := z_l2i_rng (FJ9_max_f86c9 m (-99999) (FJ9_min_f86c9 m 99999 (z_lshr (ml m (o + 1) i.toNat) 2)))
    refine j_iret rfl rfl ?_ rfl (Nat.le_refl _)
    unfold FX7_feltFrom
    rw [if_pos hb7_1]
    exact ⟨rfl, rfl⟩
  · skip
    refine j_iconst rfl ?_
    refine j_goto (tgt := 35) rfl (by decide) ?_
    refine j_iret rfl rfl ?_ rfl (Nat.le_refl _)
    unfold FX7_feltFrom
    rw [if_neg (not_not_intro hb7_1)]
    exact ⟨rfl, rfl⟩

def FX8_fits (m : AM) (x : Nat) (p : Nat) (l : Int) : Int :=
  if (z_iand (z_ishr (mi m p 8) l) 1) = 1 then
    1
  else
    if (ml m 15 (0 : Int).toNat) < ((-(FX1_greatestFor m x (mi m (p + 5) l.toNat))) - 1) then
      0
    else
      if (ml m 16 (0 : Int).toNat) > (FX1_greatestFor m x (mi m (p + 5) l.toNat)) then
        0
      else
        1
set_option maxRecDepth 20000 in
set_option maxHeartbeats 4000000 in
theorem ct_X8_fits {G : QW} {m : AM} (hS : St m) (hI : IM m) {x : Nat} {p : Nat} {l : Int} (hl1 : -2147483648 ≤ l) (hl2 : l < 2147483648) (hB : ObA m x 1 fsBox) (hP : ObA m p 5 fsProg) (hpx : mr m x 4 = some p) (hl : 0 ≤ l ∧ l ≤ 11) (htg : 0 ≤ (mi m (p + 5) l.toNat) ∧ (mi m (p + 5) l.toNat) ≤ 13) (hg : 0 ≤ FX1_greatestFor m x (mi m (p + 5) l.toNat) ∧ FX1_greatestFor m x (mi m (p + 5) l.toNat) ≤ 1048575) : qM G mX8_fits 1 0 0 [vR 12, vR x, vI l] m (fun r m' => r = some (vI (FX8_fits m x p l)) ∧ m' = m) := by
  refine qM.intro okX8_fits (Nat.le_of_ble_eq_true rfl) ?_
  refine j_aload_n rfl rfl ?_
  refine j_aload_n rfl rfl ?_
  refine j_getR (q := p) rfl f_X8_31 rfl hB.1 hB.2.1 hpx ?_
  refine j_getR (q := (p + 5)) rfl f_X8_51 rfl hP.1 hP.2.1 (hP.q 4 5 13 12 (by decide)).1 ?_
  refine j_iload_n rfl rfl ?_
  refine j_iald (n := 12) rfl (hP.q 4 5 13 12 (by decide)).2.1 (hP.q 4 5 13 12 (by decide)).2.2.1 (hP.q 4 5 13 12 (by decide)).2.2.2 (by omega) (by omega) (by decide) ?_
  have u9_1 := mi_rng m (p + 5) l.toNat
  refine j_callV (ci := 1) rfl okX1_greatestFor c_X8_54 (ct_X1_greatestFor (by omega) (by omega) hB (by omega) (by omega)) rfl rfl hB.1 hB.2.1 (by decide) rfl (Nat.le_of_ble_eq_true rfl) (by decide) (by decide) ?_
  rintro vq mq ⟨e1, e2⟩
  rw [e1, e2]
  clear e1 e2
  simp only [Option.toList_some, Option.toList_none, List.cons_append, List.nil_append]
  have hg0 := hg
  refine j_istore_n rfl (by decide) ?_
  refine j_aload_n rfl rfl ?_
  refine j_getR (q := p) rfl f_X8_31 rfl hB.1 hB.2.1 hpx ?_
  refine j_getI rfl f_X8_58 rfl hP.1 hP.2.1 ?_
  have u18_1 := mi_rng m p 8
  refine j_iload_n rfl rfl ?_
  refine j_ishr rfl ?_
  have z22_1 := z_ishr_rng (mi m p 8) l
  refine j_iconst rfl ?_
  refine j_iand rfl ?_
  have z24_1 := z_iand_rng (z_ishr (mi m p 8) l) 1
  refine j_iconst rfl ?_
  refine j_icmp_eq (tgt := 56) rfl (by decide) (by omega) (by omega) (by omega) (by omega) (fun hb26_1 => ?_) (fun hb26_1 => ?_)
  · skip
    refine j_iconst rfl ?_
    refine j_goto (tgt := 61) rfl (by decide) ?_
    refine j_zret rfl rfl (by first | decide | omega | (split <;> decide)) ?_ rfl (Nat.le_refl _)
    unfold FX8_fits
    rw [if_pos hb26_1]
    exact ⟨rfl, rfl⟩
  · skip
    refine j_aload_n rfl rfl ?_
    refine j_getR (q := 15) rfl f_X8_18 rfl (hS.lt (by decide)) (hS.k (by decide) (by decide)) (hS.r (by decide)) ?_
    refine j_iconst rfl ?_
    refine j_lald (n := 160) rfl (hS.lt (by decide)) (hS.k (by decide) (by decide)) (hS.n (by decide) (by decide)) (by omega) (by omega) (by decide) ?_
    have u34_1 := ml_rng m 15 (0 : Int).toNat
    refine j_iload_n rfl rfl ?_
    refine j_ineg rfl ?_
    refine j_iconst rfl ?_
    refine j_isub rfl ?_
    refine j_i2l rfl (by omega) (by omega) ?_
    refine j_lc_lt (tgt := 60) rfl rfl (by decide) (by omega) (by omega) (by omega) (by omega) (fun hb40_1 => ?_) (fun hb40_1 => ?_)
    · skip
      refine j_iconst rfl ?_
      refine j_zret rfl rfl (by first | decide | omega | (split <;> decide)) ?_ rfl (Nat.le_refl _)
      unfold FX8_fits
      rw [if_neg hb26_1, if_pos hb40_1]
      exact ⟨rfl, rfl⟩
    · skip
      refine j_aload_n rfl rfl ?_
      refine j_getR (q := 16) rfl f_X8_22 rfl (hS.lt (by decide)) (hS.k (by decide) (by decide)) (hS.r (by decide)) ?_
      refine j_iconst rfl ?_
      refine j_lald (n := 160) rfl (hS.lt (by decide)) (hS.k (by decide) (by decide)) (hS.n (by decide) (by decide)) (by omega) (by omega) (by decide) ?_
      have u49_1 := ml_rng m 16 (0 : Int).toNat
      refine j_iload_n rfl rfl ?_
      refine j_i2l rfl (by omega) (by omega) ?_
      refine j_lc_gt (tgt := 60) rfl rfl (by decide) (by omega) (by omega) (by omega) (by omega) (fun hb52_1 => ?_) (fun hb52_1 => ?_)
      · skip
        refine j_iconst rfl ?_
        refine j_zret rfl rfl (by first | decide | omega | (split <;> decide)) ?_ rfl (Nat.le_refl _)
        unfold FX8_fits
        rw [if_neg hb26_1, if_neg hb40_1, if_pos hb52_1]
        exact ⟨rfl, rfl⟩
      · skip
        refine j_iconst rfl ?_
        refine j_goto (tgt := 61) rfl (by decide) ?_
        refine j_zret rfl rfl (by first | decide | omega | (split <;> decide)) ?_ rfl (Nat.le_refl _)
        unfold FX8_fits
        rw [if_neg hb26_1, if_neg hb40_1, if_neg hb52_1]
        exact ⟨rfl, rfl⟩


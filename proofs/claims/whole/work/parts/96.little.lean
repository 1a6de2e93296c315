def FX7_set (m : AM) (o : Nat) (i : Int) (v : Int) : AM :=
  if (mi (si m (o + 2) i.toNat (z_i2b 0)) o 3) = 0 then
    (sl (si m (o + 2) i.toNat (z_i2b 0)) (o + 1) i.toNat (z_i2b (z_l2i v)))
  else
    if (mi (si m (o + 2) i.toNat (z_i2b 0)) o 3) = 1 then
      (sl (si m (o + 2) i.toNat (z_i2b 0)) (o + 1) i.toNat (z_l2i v))
    else
      if (mi (si m (o + 2) i.toNat (z_i2b 0)) o 3) = 3 then
        (sl (si m (o + 2) i.toNat (z_i2b 0)) (o + 1) i.toNat (z_l2f v))
      else
        if (mi (si m (o + 2) i.toNat (z_i2b 0)) o 3) = 4 then
          (sl (si m (o + 2) i.toNat (z_i2b 0)) (o + 1) i.toNat (z_l2d v))
        else
          (sl (si m (o + 2) i.toNat (z_i2b 0)) (o + 1) i.toNat v)
set_option maxRecDepth 20000 in
set_option maxHeartbeats 4000000 in
theorem ct_X7_set {G : QW} {m : AM} {o : Nat} {i : Int} {v : Int} (hi1 : -2147483648 ≤ i) (hi2 : i < 2147483648) (hO : ObA m o 7 fsShelf) (h3 : 0 ≤ i ∧ i ≤ 59) (hv1 : -9223372036854775808 ≤ v) (hv2 : v < 9223372036854775808) : qM G mX7_set 0 0 0 [vR o, vI i, vL v] m (fun r m' => r = none ∧ m' = FX7_set m o i v) := by
  refine qM.intro okX7_set (Nat.le_of_ble_eq_true rfl) ?_
  refine j_aload_n rfl rfl ?_
  refine j_getR (q := (o + 2)) rfl f_X7_15 rfl hO.1 hO.2.1 (hO.q 1 2 15 60 (by decide)).1 ?_
  refine j_iload_n rfl rfl ?_
  refine j_iconst rfl ?_
  refine j_bast (n := 60) rfl (hO.q 1 2 15 60 (by decide)).2.1 (hO.q 1 2 15 60 (by decide)).2.2.1 (hO.q 1 2 15 60 (by decide)).2.2.2 (by omega) (by omega) (by first | decide | omega) ?_
  refine j_aload_n rfl rfl ?_
  refine j_getI rfl f_X7_23 rfl hO.1 hO.2.1 ?_
  have u8_1 := mi_rng (si m (o + 2) i.toNat (z_i2b 0)) o 3
  by_cases hs11_1_0 : (mi (si m (o + 2) i.toNat (z_i2b 0)) o 3) = 0
  · skip
    refine j_tableIn (tgt := 44) rfl (by omega) (by omega) (by omega) (by omega) (by rw [hs11_1_0]; rfl) (by decide) ?_
    refine j_aload_n rfl rfl ?_
    refine j_getR (q := (o + 1)) rfl f_X7_9 rfl hO.1 hO.2.1 (hO.q 0 1 14 60 (by decide)).1 ?_
    refine j_iload_n rfl rfl ?_
    refine j_lload_n rfl rfl ?_
    refine j_l2iW rfl ?_
    have z50_1 := z_l2i_rng v
    refine j_i2b rfl ?_
    have z51_1 := z_i2b_rng (z_l2i v)
    refine j_i2l rfl (by omega) (by omega) ?_
    refine j_last (n := 60) rfl (hO.q 0 1 14 60 (by decide)).2.1 (hO.q 0 1 14 60 (by decide)).2.2.1 (hO.q 0 1 14 60 (by decide)).2.2.2 (by omega) (by omega) (by first | decide | omega) ?_
    refine j_goto (tgt := 100) rfl (by decide) ?_
    refine j_vret rfl rfl ?_ rfl (Nat.le_refl _)
    unfold FX7_set
    rw [if_pos hs11_1_0]
    exact ⟨rfl, rfl⟩
  · skip
    by_cases hs11_1_1 : (mi (si m (o + 2) i.toNat (z_i2b 0)) o 3) = 1
    · skip
      refine j_tableIn (tgt := 57) rfl (by omega) (by omega) (by omega) (by omega) (by rw [hs11_1_1]; rfl) (by decide) ?_
      refine j_aload_n rfl rfl ?_
      refine j_getR (q := (o + 1)) rfl f_X7_9 rfl hO.1 hO.2.1 (hO.q 0 1 14 60 (by decide)).1 ?_
      refine j_iload_n rfl rfl ?_
      refine j_lload_n rfl rfl ?_
      refine j_l2iW rfl ?_
      have z63_1 := z_l2i_rng v
      refine j_i2l rfl (by omega) (by omega) ?_
      refine j_last (n := 60) rfl (hO.q 0 1 14 60 (by decide)).2.1 (hO.q 0 1 14 60 (by decide)).2.2.1 (hO.q 0 1 14 60 (by decide)).2.2.2 (by omega) (by omega) (by first | decide | omega) ?_
      refine j_goto (tgt := 100) rfl (by decide) ?_
      refine j_vret rfl rfl ?_ rfl (Nat.le_refl _)
      unfold FX7_set
      rw [if_neg hs11_1_0, if_pos hs11_1_1]
      exact ⟨rfl, rfl⟩
    · skip
      by_cases hs11_1_3 : (mi (si m (o + 2) i.toNat (z_i2b 0)) o 3) = 3
      · skip
        refine j_tableIn (tgt := 69) rfl (by omega) (by omega) (by omega) (by omega) (by rw [hs11_1_3]; rfl) (by decide) ?_
        refine j_aload_n rfl rfl ?_
        refine j_getR (q := (o + 1)) rfl f_X7_9 rfl hO.1 hO.2.1 (hO.q 0 1 14 60 (by decide)).1 ?_
        refine j_iload_n rfl rfl ?_
        refine j_lload_n rfl rfl ?_
        refine j_l2f rfl rfl ?_
        have z75_1 := z_l2f_rng v
        refine j_last (n := 60) rfl (hO.q 0 1 14 60 (by decide)).2.1 (hO.q 0 1 14 60 (by decide)).2.2.1 (hO.q 0 1 14 60 (by decide)).2.2.2 (by omega) (by omega) (by first | decide | omega) ?_
        refine j_goto (tgt := 100) rfl (by decide) ?_
        refine j_vret rfl rfl ?_ rfl (Nat.le_refl _)
        unfold FX7_set
        rw [if_neg hs11_1_0, if_neg hs11_1_1, if_pos hs11_1_3]
        exact ⟨rfl, rfl⟩
      · skip
        by_cases hs11_1_4 : (mi (si m (o + 2) i.toNat (z_i2b 0)) o 3) = 4
        · skip
          refine j_tableIn (tgt := 81) rfl (by omega) (by omega) (by omega) (by omega) (by rw [hs11_1_4]; rfl) (by decide) ?_
          refine j_aload_n rfl rfl ?_
          refine j_getR (q := (o + 1)) rfl f_X7_9 rfl hO.1 hO.2.1 (hO.q 0 1 14 60 (by decide)).1 ?_
          refine j_iload_n rfl rfl ?_
          refine j_lload_n rfl rfl ?_
          refine j_l2d rfl rfl ?_
          have z87_1 := z_l2d_rng v
          refine j_last (n := 60) rfl (hO.q 0 1 14 60 (by decide)).2.1 (hO.q 0 1 14 60 (by decide)).2.2.1 (hO.q 0 1 14 60 (by decide)).2.2.2 (by omega) (by omega) (by first | decide | omega) ?_
          refine j_goto (tgt := 100) rfl (by decide) ?_
          refine j_vret rfl rfl ?_ rfl (Nat.le_refl _)
          unfold FX7_set
          rw [if_neg hs11_1_0, if_neg hs11_1_1, if_neg hs11_1_3, if_pos hs11_1_4]
          exact ⟨rfl, rfl⟩
        · skip
          refine j_tableDef (tgt := 93) rfl (by omega) (by omega) (by rcases (show (mi (si m (o + 2) i.toNat (z_i2b 0)) o 3) < 0 ∨ 4 < (mi (si m (o + 2) i.toNat (z_i2b 0)) o 3) ∨ (mi (si m (o + 2) i.toNat (z_i2b 0)) o 3) = 2 from by omega) with q | q | q <;> first | exact Or.inl q | exact Or.inr (Or.inl q) | (rw [q]; exact Or.inr (Or.inr rfl))) (by decide) ?_
          refine j_aload_n rfl rfl ?_
          refine j_getR (q := (o + 1)) rfl f_X7_9 rfl hO.1 hO.2.1 (hO.q 0 1 14 60 (by decide)).1 ?_
          refine j_iload_n rfl rfl ?_
          refine j_lload_n rfl rfl ?_
          refine j_last (n := 60) rfl (hO.q 0 1 14 60 (by decide)).2.1 (hO.q 0 1 14 60 (by decide)).2.2.1 (hO.q 0 1 14 60 (by decide)).2.2.2 (by omega) (by omega) (by first | decide | omega) ?_
          refine j_vret rfl rfl ?_ rfl (Nat.le_refl _)
          unfold FX7_set
          rw [if_neg hs11_1_0, if_neg hs11_1_1, if_neg hs11_1_3, if_neg hs11_1_4]
          exact ⟨rfl, rfl⟩

def FX8_setName (m : AM) (x : Nat) (at0 : Int) (b : Int) (name : Int) : AM :=
  if (z_ishr name 20) = 1 then
    (FX8_setBits m at0 (FX1_greatestFor m x (z_iand name 1048575)))
  else
    if (z_ishr name 20) = 2 then
      (FX8_setBits m at0 (FX1_greatestFor m x 10))
    else
      if (z_ishr name 20) = 3 then
        (FX8_set m at0 (mi m 13 ((b * 3) + (z_iand name 1048575)).toNat) (mi m 14 ((b * 3) + (z_iand name 1048575)).toNat))
      else
        if (z_ishr name 20) = 4 then
          (FX8_set m at0 0 199)
        else
          if (z_ishr name 20) = 5 then
            (FX8_set m at0 0 4)
          else
            (FX8_set m at0 (z_iand name 1048575) (z_iand name 1048575))
set_option maxRecDepth 20000 in
set_option maxHeartbeats 4000000 in
theorem ct_X8_setName {G : QW} {m : AM} (hS : St m) (hI : IM m) {x : Nat} {at0 : Int} {b : Int} {name : Int} (hat01 : -2147483648 ≤ at0) (hat02 : at0 < 2147483648) (hb1 : -2147483648 ≤ b) (hb2 : b < 2147483648) (hname1 : -2147483648 ≤ name) (hname2 : name < 2147483648) (hB : ObA m x 1 fsBox) (h3 : 0 ≤ at0) (h4 : at0 ≤ 159) (hb0 : 0 ≤ b ∧ b ≤ 1) (hn1 : z_ishr name 20 = 1 → 0 ≤ (z_iand name 1048575) ∧ (z_iand name 1048575) ≤ 7) (hn3 : z_ishr name 20 = 3 → 0 ≤ (z_iand name 1048575) ∧ (z_iand name 1048575) ≤ 2) (hg : z_ishr name 20 = 1 → 0 ≤ FX1_greatestFor m x (z_iand name 1048575) ∧ FX1_greatestFor m x (z_iand name 1048575) ≤ 1048575) (hg2 : 0 ≤ FX1_greatestFor m x 10 ∧ FX1_greatestFor m x 10 ≤ 1048575) : qM G mX8_setName 2 0 0 [vR 12, vI at0, vI b, vR x, vI name] m (fun r m' => r = none ∧ m' = FX8_setName m x at0 b name) := by
  refine qM.intro okX8_setName (Nat.le_of_ble_eq_true rfl) ?_
  refine j_iload rfl rfl ?_
  refine j_ldc (v := 1048575) rfl k_X8_86 ?_
  refine j_iand rfl ?_
  have z4_1 := z_iand_rng name 1048575
  refine j_istore rfl (by decide) ?_
  refine j_iload rfl rfl ?_
  refine j_bipush rfl (by decide) ?_
  refine j_ishr rfl ?_
  have z11_1 := z_ishr_rng name 20
  by_cases hs12_1_1 : (z_ishr name 20) = 1
  · skip
    refine j_tableIn (tgt := 48) rfl (by omega) (by omega) (by omega) (by omega) (by rw [hs12_1_1]; rfl) (by decide) ?_
    refine j_aload_n rfl rfl ?_
    refine j_iload_n rfl rfl ?_
    refine j_aload_n rfl rfl ?_
    refine j_iload rfl rfl ?_
    refine j_callV (ci := 1) rfl okX1_greatestFor c_X8_54 (ct_X1_greatestFor (by omega) (by omega) hB (by omega) (by omega)) rfl rfl hB.1 hB.2.1 (by decide) rfl (Nat.le_of_ble_eq_true rfl) (by decide) (by decide) ?_
    rintro vq mq ⟨e1, e2⟩
    rw [e1, e2]
    clear e1 e2
    simp only [Option.toList_some, Option.toList_none, List.cons_append, List.nil_append]
    have hg0 := hg (by omega)
    refine j_callV (ci := 8) rfl okX8_setBits c_X8_87 (ct_X8_setBits hS hI (by omega) (by omega) (by omega) (by omega) (by omega) (by omega) (by omega) (by omega)) rfl rfl (hS.lt (by decide)) (hS.k (by decide) (by decide)) (by decide) rfl (Nat.le_of_ble_eq_true rfl) (by decide) (by decide) ?_
    rintro vq mq ⟨e1, e2⟩
    rw [e1, e2]
    clear e1 e2
    simp only [Option.toList_some, Option.toList_none, List.cons_append, List.nil_append]
    refine j_goto (tgt := 143) rfl (by decide) ?_
    refine j_vret rfl rfl ?_ rfl (Nat.le_refl _)
    unfold FX8_setName
    rw [if_pos hs12_1_1]
    exact ⟨rfl, rfl⟩
  · skip
    by_cases hs12_1_2 : (z_ishr name 20) = 2
    · skip
      refine j_tableIn (tgt := 62) rfl (by omega) (by omega) (by omega) (by omega) (by rw [hs12_1_2]; rfl) (by decide) ?_
      refine j_aload_n rfl rfl ?_
      refine j_iload_n rfl rfl ?_
      refine j_aload_n rfl rfl ?_
      refine j_bipush rfl (by decide) ?_
      refine j_callV (ci := 1) rfl okX1_greatestFor c_X8_54 (ct_X1_greatestFor (by omega) (by omega) hB (by omega) (by omega)) rfl rfl hB.1 hB.2.1 (by decide) rfl (Nat.le_of_ble_eq_true rfl) (by decide) (by decide) ?_
      rintro vq mq ⟨e1, e2⟩
      rw [e1, e2]
      clear e1 e2
      simp only [Option.toList_some, Option.toList_none, List.cons_append, List.nil_append]
      have hg0 := hg2
      refine j_callV (ci := 8) rfl okX8_setBits c_X8_87 (ct_X8_setBits hS hI (by omega) (by omega) (by omega) (by omega) (by omega) (by omega) (by omega) (by omega)) rfl rfl (hS.lt (by decide)) (hS.k (by decide) (by decide)) (by decide) rfl (Nat.le_of_ble_eq_true rfl) (by decide) (by decide) ?_
      rintro vq mq ⟨e1, e2⟩
      rw [e1, e2]
      clear e1 e2
      simp only [Option.toList_some, Option.toList_none, List.cons_append, List.nil_append]
      refine j_goto (tgt := 143) rfl (by decide) ?_
      refine j_vret rfl rfl ?_ rfl (Nat.le_refl _)
      unfold FX8_setName
      rw [if_neg hs12_1_1, if_pos hs12_1_2]
      exact ⟨rfl, rfl⟩
    · skip
      by_cases hs12_1_3 : (z_ishr name 20) = 3
      · skip
        refine j_tableIn (tgt := 76) rfl (by omega) (by omega) (by omega) (by omega) (by rw [hs12_1_3]; rfl) (by decide) ?_
        refine j_aload_n rfl rfl ?_
        refine j_iload_n rfl rfl ?_
        refine j_aload_n rfl rfl ?_
        refine j_getR (q := 13) rfl f_X8_9 rfl (hS.lt (by decide)) (hS.k (by decide) (by decide)) (hS.r (by decide)) ?_
        refine j_iload_n rfl rfl ?_
        refine j_iconst rfl ?_
        refine j_imul rfl ?_
        refine j_iload rfl rfl ?_
        refine j_iadd rfl ?_
        refine j_iald (n := 6) rfl (hS.lt (by decide)) (hS.k (by decide) (by decide)) (hS.n (by decide) (by decide)) (by omega) (by omega) (by decide) ?_
        have u88_1 := hI.a 13 (-99999) 99999 (by decide) ((b * 3) + (z_iand name 1048575)).toNat
        refine j_i2l rfl (by omega) (by omega) ?_
        refine j_aload_n rfl rfl ?_
        refine j_getR (q := 14) rfl f_X8_15 rfl (hS.lt (by decide)) (hS.k (by decide) (by decide)) (hS.r (by decide)) ?_
        refine j_iload_n rfl rfl ?_
        refine j_iconst rfl ?_
        refine j_imul rfl ?_
        refine j_iload rfl rfl ?_
        refine j_iadd rfl ?_
        refine j_iald (n := 6) rfl (hS.lt (by decide)) (hS.k (by decide) (by decide)) (hS.n (by decide) (by decide)) (by omega) (by omega) (by decide) ?_
        have u100_1 := hI.a 14 (-99999) 99999 (by decide) ((b * 3) + (z_iand name 1048575)).toNat
        refine j_i2l rfl (by omega) (by omega) ?_
        refine j_callV (ci := 8) rfl okX8_set c_X8_78 (ct_X8_set hS hI (by omega) (by omega) (by omega) (by omega) (by omega) (by omega) (by omega) (by omega)) rfl rfl (hS.lt (by decide)) (hS.k (by decide) (by decide)) (by decide) rfl (Nat.le_of_ble_eq_true rfl) (by decide) (by decide) ?_
        rintro vq mq ⟨e1, e2⟩
        rw [e1, e2]
        clear e1 e2
        simp only [Option.toList_some, Option.toList_none, List.cons_append, List.nil_append]
        refine j_goto (tgt := 143) rfl (by decide) ?_
        refine j_vret rfl rfl ?_ rfl (Nat.le_refl _)
        unfold FX8_setName
        rw [if_neg hs12_1_1, if_neg hs12_1_2, if_pos hs12_1_3]
        exact ⟨rfl, rfl⟩
      · skip
        by_cases hs12_1_4 : (z_ishr name 20) = 4
        · skip
          refine j_tableIn (tgt := 108) rfl (by omega) (by omega) (by omega) (by omega) (by rw [hs12_1_4]; rfl) (by decide) ?_
          refine j_aload_n rfl rfl ?_
          refine j_iload_n rfl rfl ?_
          refine j_lconst (v := 0) rfl (by decide) ?_
          refine j_ldc2 (v := 199) rfl k_X8_90 ?_
          refine j_callV (ci := 8) rfl okX8_set c_X8_78 (ct_X8_set hS hI (by omega) (by omega) (by omega) (by omega) (by omega) (by omega) (by omega) (by omega)) rfl rfl (hS.lt (by decide)) (hS.k (by decide) (by decide)) (by decide) rfl (Nat.le_of_ble_eq_true rfl) (by decide) (by decide) ?_
          rintro vq mq ⟨e1, e2⟩
          rw [e1, e2]
          clear e1 e2
          simp only [Option.toList_some, Option.toList_none, List.cons_append, List.nil_append]
          refine j_goto (tgt := 143) rfl (by decide) ?_
          refine j_vret rfl rfl ?_ rfl (Nat.le_refl _)
          unfold FX8_setName
          rw [if_neg hs12_1_1, if_neg hs12_1_2, if_neg hs12_1_3, if_pos hs12_1_4]
          exact ⟨rfl, rfl⟩
        · skip
          by_cases hs12_1_5 : (z_ishr name 20) = 5
          · skip
            refine j_tableIn (tgt := 120) rfl (by omega) (by omega) (by omega) (by omega) (by rw [hs12_1_5]; rfl) (by decide) ?_
            refine j_aload_n rfl rfl ?_
            refine j_iload_n rfl rfl ?_
            refine j_lconst (v := 0) rfl (by decide) ?_
            refine j_ldc2 (v := 4) rfl k_X8_92 ?_
            refine j_callV (ci := 8) rfl okX8_set c_X8_78 (ct_X8_set hS hI (by omega) (by omega) (by omega) (by omega) (by omega) (by omega) (by omega) (by omega)) rfl rfl (hS.lt (by decide)) (hS.k (by decide) (by decide)) (by decide) rfl (Nat.le_of_ble_eq_true rfl) (by decide) (by decide) ?_
            rintro vq mq ⟨e1, e2⟩
            rw [e1, e2]
            clear e1 e2
            simp only [Option.toList_some, Option.toList_none, List.cons_append, List.nil_append]
            refine j_goto (tgt := 143) rfl (by decide) ?_
            refine j_vret rfl rfl ?_ rfl (Nat.le_refl _)
            unfold FX8_setName
            rw [if_neg hs12_1_1, if_neg hs12_1_2, if_neg hs12_1_3, if_neg hs12_1_4, if_pos hs12_1_5]
            exact ⟨rfl, rfl⟩
          · skip
            refine j_tableOut (tgt := 132) rfl (by omega) (by omega) (by omega) (by decide) ?_
            refine j_aload_n rfl rfl ?_
            refine j_iload_n rfl rfl ?_
            refine j_iload rfl rfl ?_
            refine j_i2l rfl (by omega) (by omega) ?_
            refine j_iload rfl rfl ?_
            refine j_i2l rfl (by omega) (by omega) ?_
            refine j_callV (ci := 8) rfl okX8_set c_X8_78 (ct_X8_set hS hI (by omega) (by omega) (by omega) (by omega) (by omega) (by omega) (by omega) (by omega)) rfl rfl (hS.lt (by decide)) (hS.k (by decide) (by decide)) (by decide) rfl (Nat.le_of_ble_eq_true rfl) (by decide) (by decide) ?_
            rintro vq mq ⟨e1, e2⟩
            rw [e1, e2]
            clear e1 e2
            simp only [Option.toList_some, Option.toList_none, List.cons_append, List.nil_append]
            refine j_vret rfl rfl ?_ rfl (Nat.le_refl _)
            unfold FX8_setName
            rw [if_neg hs12_1_1, if_neg hs12_1_2, if_neg hs12_1_3, if_neg hs12_1_4, if_neg hs12_1_5]
            exact ⟨rfl, rfl⟩


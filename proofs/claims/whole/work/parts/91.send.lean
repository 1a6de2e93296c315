theorem minL_rng (m : AM) (a b : Int) : (FJ9_min_f86c9 m a b = a ∨ FJ9_min_f86c9 m a b = b) := by unfold FJ9_min_f86c9; split <;> simp
theorem maxL_rng (m : AM) (a b : Int) : (FJ9_max_f86c9 m a b = a ∨ FJ9_max_f86c9 m a b = b) := by unfold FJ9_max_f86c9; split <;> simp

def FX10_send (m : AM) (o : Nat) (x : Nat) (p : Nat) (l : Int) (v : Int) : AM :=
  if (mi m 17 9) ≠ 0 then
    if (mi m 17 9) = 0 then
      if (mi m (p + 5) l.toNat) ≥ 10 then
        (si m (o + 2) ((((mi m x 0) * 4) + (mi m (p + 5) l.toNat)) - 10).toNat (z_l2i (FJ9_max_f86c9 m ((-(FX1_greatestFor m x (mi m (p + 5) l.toNat))) - 1) (FJ9_min_f86c9 m (FX1_greatestFor m x (mi m (p + 5) l.toNat)) v))))
      else
        (si m (o + 1) (((mi m x 0) * 8) + (mi m (p + 5) l.toNat)).toNat (z_l2i (FJ9_max_f86c9 m ((-(FX1_greatestFor m x (mi m (p + 5) l.toNat))) - 1) (FJ9_min_f86c9 m (FX1_greatestFor m x (mi m (p + 5) l.toNat)) v))))
    else
      m
  else
    if (FJ9_max_f86c9 m ((-(FX1_greatestFor m x (mi m (p + 5) l.toNat))) - 1) (FJ9_min_f86c9 m (FX1_greatestFor m x (mi m (p + 5) l.toNat)) v)) = v then
      if (mi m 17 9) = 0 then
        if (mi m (p + 5) l.toNat) ≥ 10 then
          (si m (o + 2) ((((mi m x 0) * 4) + (mi m (p + 5) l.toNat)) - 10).toNat (z_l2i (FJ9_max_f86c9 m ((-(FX1_greatestFor m x (mi m (p + 5) l.toNat))) - 1) (FJ9_min_f86c9 m (FX1_greatestFor m x (mi m (p + 5) l.toNat)) v))))
        else
          (si m (o + 1) (((mi m x 0) * 8) + (mi m (p + 5) l.toNat)).toNat (z_l2i (FJ9_max_f86c9 m ((-(FX1_greatestFor m x (mi m (p + 5) l.toNat))) - 1) (FJ9_min_f86c9 m (FX1_greatestFor m x (mi m (p + 5) l.toNat)) v))))
      else
        m
    else
      if (z_iand (z_ishr (mi m p 8) l) 1) ≠ 1 then
        if (1 : Int) = 0 then
          if (mi m (p + 5) l.toNat) ≥ 10 then
            (si (si (si m (o + 6) (mi m x 0).toNat (z_ior (mi m (o + 6) (mi m x 0).toNat) (z_ishl 1 l))) 17 9 1) (o + 2) ((((mi m x 0) * 4) + (mi m (p + 5) l.toNat)) - 10).toNat (z_l2i (FJ9_max_f86c9 m ((-(FX1_greatestFor m x (mi m (p + 5) l.toNat))) - 1) (FJ9_min_f86c9 m (FX1_greatestFor m x (mi m (p + 5) l.toNat)) v))))
          else
            (si (si (si m (o + 6) (mi m x 0).toNat (z_ior (mi m (o + 6) (mi m x 0).toNat) (z_ishl 1 l))) 17 9 1) (o + 1) (((mi m x 0) * 8) + (mi m (p + 5) l.toNat)).toNat (z_l2i (FJ9_max_f86c9 m ((-(FX1_greatestFor m x (mi m (p + 5) l.toNat))) - 1) (FJ9_min_f86c9 m (FX1_greatestFor m x (mi m (p + 5) l.toNat)) v))))
        else
          (si (si m (o + 6) (mi m x 0).toNat (z_ior (mi m (o + 6) (mi m x 0).toNat) (z_ishl 1 l))) 17 9 1)
      else
        if (0 : Int) = 0 then
          if (mi m (p + 5) l.toNat) ≥ 10 then
            (si (si (si m (o + 6) (mi m x 0).toNat (z_ior (mi m (o + 6) (mi m x 0).toNat) (z_ishl 1 l))) 17 9 0) (o + 2) ((((mi m x 0) * 4) + (mi m (p + 5) l.toNat)) - 10).toNat (z_l2i (FJ9_max_f86c9 m ((-(FX1_greatestFor m x (mi m (p + 5) l.toNat))) - 1) (FJ9_min_f86c9 m (FX1_greatestFor m x (mi m (p + 5) l.toNat)) v))))
          else
            (si (si (si m (o + 6) (mi m x 0).toNat (z_ior (mi m (o + 6) (mi m x 0).toNat) (z_ishl 1 l))) 17 9 0) (o + 1) (((mi m x 0) * 8) + (mi m (p + 5) l.toNat)).toNat (z_l2i (FJ9_max_f86c9 m ((-(FX1_greatestFor m x (mi m (p + 5) l.toNat))) - 1) (FJ9_min_f86c9 m (FX1_greatestFor m x (mi m (p + 5) l.toNat)) v))))
        else
          (si (si m (o + 6) (mi m x 0).toNat (z_ior (mi m (o + 6) (mi m x 0).toNat) (z_ishl 1 l))) 17 9 0)
set_option maxRecDepth 20000 in
set_option maxHeartbeats 4000000 in
theorem ct_X10_send {G : QW} {m : AM} (hS : St m) (hI : IM m) {o : Nat} {x : Nat} {p : Nat} {l : Int} {v : Int} (hl1 : -2147483648 ≤ l) (hl2 : l < 2147483648) (hO : ObA m o 9 fsStand) (hs : mr m 17 4 = some o) (hB : ObA m x 1 fsBox) (hbx : mr m 17 5 = some x) (hx0 : 0 ≤ mi m x 0 ∧ mi m x 0 ≤ 5) (hP : ObA m p 5 fsProg) (hpg : mr m 17 6 = some p) (hxo : ¬ x = o + 6) (hx17 : ¬ x = 17) (hpo : ¬ p = o + 6) (hp17 : ¬ p = 17) (hl0 : 0 ≤ l ∧ l ≤ 11) (hv : -9000000000000000000 ≤ v ∧ v ≤ 9000000000000000000) (htg : 0 ≤ (mi m (p + 5) l.toNat) ∧ (mi m (p + 5) l.toNat) ≤ 13) (htg2 : (mi m (p + 5) l.toNat) < 10 → (mi m (p + 5) l.toNat) ≤ 7) (hg : 0 ≤ FX1_greatestFor m x (mi m (p + 5) l.toNat) ∧ FX1_greatestFor m x (mi m (p + 5) l.toNat) ≤ 1048575) : qM G mX10_send 1 0 0 [vR 17, vI l, vL v] m (fun r m' => r = none ∧ m' = FX10_send m o x p l v) := by
  refine qM.intro okX10_send (Nat.le_of_ble_eq_true rfl) ?_
  refine j_aload_n rfl rfl ?_
  refine j_getR (q := p) rfl f_X10_67 rfl (hS.lt (by decide)) (hS.k (by decide) (by decide)) hpg ?_
  refine j_getR (q := (p + 5)) rfl f_X10_112 rfl hP.1 hP.2.1 (hP.q 4 5 13 12 (by decide)).1 ?_
  refine j_iload_n rfl rfl ?_
  refine j_iald (n := 12) rfl (hP.q 4 5 13 12 (by decide)).2.1 (hP.q 4 5 13 12 (by decide)).2.2.1 (hP.q 4 5 13 12 (by decide)).2.2.2 (by omega) (by omega) (by decide) ?_
  have u8_1 := mi_rng m (p + 5) l.toNat
  refine j_istore rfl (by decide) ?_
  refine j_aload_n rfl rfl ?_
  refine j_getR (q := x) rfl f_X10_57 rfl (hS.lt (by decide)) (hS.k (by decide) (by decide)) hbx ?_
  refine j_iload rfl rfl ?_
  refine j_callV (ci := 1) rfl okX1_greatestFor c_X10_115 (ct_X1_greatestFor (by omega) (by omega) hB (by omega) (by omega)) rfl rfl hB.1 hB.2.1 (by decide) rfl (Nat.le_of_ble_eq_true rfl) (by decide) (by decide) ?_
  rintro vq mq ⟨e1, e2⟩
  rw [e1, e2]
  clear e1 e2
  simp only [Option.toList_some, Option.toList_none, List.cons_append, List.nil_append]
  have hg0 := hg
  refine j_istore rfl (by decide) ?_
  refine j_iload rfl rfl ?_
  refine j_ineg rfl ?_
  refine j_iconst rfl ?_
  refine j_isub rfl ?_
  refine j_i2l rfl (by omega) (by omega) ?_
  refine j_iload rfl rfl ?_
  refine j_i2l rfl (by omega) (by omega) ?_
  refine j_lload_n rfl rfl ?_
  refine j_callS (As := [_, _]) rfl okJ9_min_f86c9 c_X10_119 (ct_J9_min_f86c9 (by omega) (by omega) (by omega) (by omega)) rfl rfl (Nat.le_of_ble_eq_true rfl) (by decide) (by decide) ?_
  rintro vq mq ⟨e1, e2⟩
  rw [e1, e2]
  clear e1 e2
  simp only [Option.toList_some, Option.toList_none, List.cons_append, List.nil_append]
  have hmn := minL_rng m (FX1_greatestFor m x (mi m (p + 5) l.toNat)) v
  refine j_callS (As := [_, _]) rfl okJ9_max_f86c9 c_X10_125 (ct_J9_max_f86c9 (by omega) (by omega) (by omega) (by omega)) rfl rfl (Nat.le_of_ble_eq_true rfl) (by decide) (by decide) ?_
  rintro vq mq ⟨e1, e2⟩
  rw [e1, e2]
  clear e1 e2
  simp only [Option.toList_some, Option.toList_none, List.cons_append, List.nil_append]
  have hmx := maxL_rng m ((-(FX1_greatestFor m x (mi m (p + 5) l.toNat))) - 1) (FJ9_min_f86c9 m (FX1_greatestFor m x (mi m (p + 5) l.toNat)) v)
  refine j_lstore rfl (by decide) ?_
  refine j_aload_n rfl rfl ?_
  refine j_getI rfl f_X10_84 rfl (hS.lt (by decide)) (hS.k (by decide) (by decide)) ?_
  have u41_1 := mi_rng m 17 9
  refine j_if_ne (tgt := 99) rfl (by decide) (by omega) (by omega) (fun hb44_1 => ?_) (fun hb44_1 => ?_)
  · skip
    refine j_aload_n rfl rfl ?_
    refine j_getI rfl f_X10_84 rfl (hS.lt (by decide)) (hS.k (by decide) (by decide)) ?_
    have u100_1 := mi_rng m 17 9
    refine j_if_eq (tgt := 107) rfl (by decide) (by omega) (by omega) (fun hb103_1 => ?_) (fun hb103_1 => ?_)
    · skip
      refine j_iload rfl rfl ?_
      refine j_bipush rfl (by decide) ?_
      refine j_icmp_ge (tgt := 141) rfl (by decide) (by omega) (by omega) (by omega) (by omega) (fun hb111_1 => ?_) (fun hb111_1 => ?_)
      · skip
        refine j_aload_n rfl rfl ?_
        refine j_getR (q := o) rfl f_X10_25 rfl (hS.lt (by decide)) (hS.k (by decide) (by decide)) hs ?_
        refine j_getR (q := (o + 2)) rfl f_X10_33 rfl hO.1 hO.2.1 (hO.q 1 2 13 24 (by decide)).1 ?_
        refine j_aload_n rfl rfl ?_
        refine j_getR (q := x) rfl f_X10_57 rfl (hS.lt (by decide)) (hS.k (by decide) (by decide)) hbx ?_
        refine j_getI rfl f_X10_79 rfl hB.1 hB.2.1 ?_
        have u152_1 := mi_rng m x 0
        refine j_iconst rfl ?_
        refine j_imul rfl ?_
        refine j_iload rfl rfl ?_
        refine j_iadd rfl ?_
        refine j_bipush rfl (by decide) ?_
        refine j_isub rfl ?_
        refine j_lload rfl rfl ?_
        refine j_l2iW rfl ?_
        have z165_1 := z_l2i_rng (FJ9_max_f86c9 m ((-(FX1_greatestFor m x (mi m (p + 5) l.toNat))) - 1) (FJ9_min_f86c9 m (FX1_greatestFor m x (mi m (p + 5) l.toNat)) v))
        refine j_iast (n := 24) rfl (hO.q 1 2 13 24 (by decide)).2.1 (hO.q 1 2 13 24 (by decide)).2.2.1 (hO.q 1 2 13 24 (by decide)).2.2.2 (by omega) (by omega) (by first | decide | omega) ?_
        refine j_vret rfl rfl ?_ rfl (Nat.le_refl _)
        unfold FX10_send
        rw [if_pos hb44_1, if_pos hb103_1, if_pos hb111_1]
        exact ⟨rfl, rfl⟩
      · skip
        refine j_aload_n rfl rfl ?_
        refine j_getR (q := o) rfl f_X10_25 rfl (hS.lt (by decide)) (hS.k (by decide) (by decide)) hs ?_
        refine j_getR (q := (o + 1)) rfl f_X10_134 rfl hO.1 hO.2.1 (hO.q 0 1 13 48 (by decide)).1 ?_
        refine j_aload_n rfl rfl ?_
        refine j_getR (q := x) rfl f_X10_57 rfl (hS.lt (by decide)) (hS.k (by decide) (by decide)) hbx ?_
        refine j_getI rfl f_X10_79 rfl hB.1 hB.2.1 ?_
        have u125_1 := mi_rng m x 0
        refine j_bipush rfl (by decide) ?_
        refine j_imul rfl ?_
        refine j_iload rfl rfl ?_
        refine j_iadd rfl ?_
        refine j_lload rfl rfl ?_
        refine j_l2iW rfl ?_
        have z136_1 := z_l2i_rng (FJ9_max_f86c9 m ((-(FX1_greatestFor m x (mi m (p + 5) l.toNat))) - 1) (FJ9_min_f86c9 m (FX1_greatestFor m x (mi m (p + 5) l.toNat)) v))
        refine j_iast (n := 48) rfl (hO.q 0 1 13 48 (by decide)).2.1 (hO.q 0 1 13 48 (by decide)).2.2.1 (hO.q 0 1 13 48 (by decide)).2.2.2 (by omega) (by omega) (by first | decide | omega) ?_
        refine j_goto (tgt := 167) rfl (by decide) ?_
        refine j_vret rfl rfl ?_ rfl (Nat.le_refl _)
        unfold FX10_send
        rw [if_pos hb44_1, if_pos hb103_1, if_neg hb111_1]
        exact ⟨rfl, rfl⟩
    · skip
      refine j_vret rfl rfl ?_ rfl (Nat.le_refl _)
      unfold FX10_send
      rw [if_pos hb44_1, if_neg hb103_1]
      exact ⟨rfl, rfl⟩
  · skip
    refine j_lload rfl rfl ?_
    refine j_lload_n rfl rfl ?_
    refine j_lc_eq (tgt := 99) rfl rfl (by decide) (by omega) (by omega) (by omega) (by omega) (fun hb50_1 => ?_) (fun hb50_1 => ?_)
    · skip
      refine j_aload_n rfl rfl ?_
      refine j_getI rfl f_X10_84 rfl (hS.lt (by decide)) (hS.k (by decide) (by decide)) ?_
      have u100_2 := mi_rng m 17 9
      refine j_if_eq (tgt := 107) rfl (by decide) (by omega) (by omega) (fun hb103_2 => ?_) (fun hb103_2 => ?_)
      · skip
        refine j_iload rfl rfl ?_
        refine j_bipush rfl (by decide) ?_
        refine j_icmp_ge (tgt := 141) rfl (by decide) (by omega) (by omega) (by omega) (by omega) (fun hb111_2 => ?_) (fun hb111_2 => ?_)
        · skip
          refine j_aload_n rfl rfl ?_
          refine j_getR (q := o) rfl f_X10_25 rfl (hS.lt (by decide)) (hS.k (by decide) (by decide)) hs ?_
          refine j_getR (q := (o + 2)) rfl f_X10_33 rfl hO.1 hO.2.1 (hO.q 1 2 13 24 (by decide)).1 ?_
          refine j_aload_n rfl rfl ?_
          refine j_getR (q := x) rfl f_X10_57 rfl (hS.lt (by decide)) (hS.k (by decide) (by decide)) hbx ?_
          refine j_getI rfl f_X10_79 rfl hB.1 hB.2.1 ?_
          have u152_2 := mi_rng m x 0
          refine j_iconst rfl ?_
          refine j_imul rfl ?_
          refine j_iload rfl rfl ?_
          refine j_iadd rfl ?_
          refine j_bipush rfl (by decide) ?_
          refine j_isub rfl ?_
          refine j_lload rfl rfl ?_
          refine j_l2iW rfl ?_
          have z165_2 := z_l2i_rng (FJ9_max_f86c9 m ((-(FX1_greatestFor m x (mi m (p + 5) l.toNat))) - 1) (FJ9_min_f86c9 m (FX1_greatestFor m x (mi m (p + 5) l.toNat)) v))
          refine j_iast (n := 24) rfl (hO.q 1 2 13 24 (by decide)).2.1 (hO.q 1 2 13 24 (by decide)).2.2.1 (hO.q 1 2 13 24 (by decide)).2.2.2 (by omega) (by omega) (by first | decide | omega) ?_
          refine j_vret rfl rfl ?_ rfl (Nat.le_refl _)
          unfold FX10_send
          rw [if_neg (not_not_intro hb44_1), if_pos hb50_1, if_pos hb103_2, if_pos hb111_2]
          exact ⟨rfl, rfl⟩
        · skip
          refine j_aload_n rfl rfl ?_
          refine j_getR (q := o) rfl f_X10_25 rfl (hS.lt (by decide)) (hS.k (by decide) (by decide)) hs ?_
          refine j_getR (q := (o + 1)) rfl f_X10_134 rfl hO.1 hO.2.1 (hO.q 0 1 13 48 (by decide)).1 ?_
          refine j_aload_n rfl rfl ?_
          refine j_getR (q := x) rfl f_X10_57 rfl (hS.lt (by decide)) (hS.k (by decide) (by decide)) hbx ?_
          refine j_getI rfl f_X10_79 rfl hB.1 hB.2.1 ?_
          have u125_2 := mi_rng m x 0
          refine j_bipush rfl (by decide) ?_
          refine j_imul rfl ?_
          refine j_iload rfl rfl ?_
          refine j_iadd rfl ?_
          refine j_lload rfl rfl ?_
          refine j_l2iW rfl ?_
          have z136_2 := z_l2i_rng (FJ9_max_f86c9 m ((-(FX1_greatestFor m x (mi m (p + 5) l.toNat))) - 1) (FJ9_min_f86c9 m (FX1_greatestFor m x (mi m (p + 5) l.toNat)) v))
          refine j_iast (n := 48) rfl (hO.q 0 1 13 48 (by decide)).2.1 (hO.q 0 1 13 48 (by decide)).2.2.1 (hO.q 0 1 13 48 (by decide)).2.2.2 (by omega) (by omega) (by first | decide | omega) ?_
          refine j_goto (tgt := 167) rfl (by decide) ?_
          refine j_vret rfl rfl ?_ rfl (Nat.le_refl _)
          unfold FX10_send
          rw [if_neg (not_not_intro hb44_1), if_pos hb50_1, if_pos hb103_2, if_neg hb111_2]
          exact ⟨rfl, rfl⟩
      · skip
        refine j_vret rfl rfl ?_ rfl (Nat.le_refl _)
        unfold FX10_send
        rw [if_neg (not_not_intro hb44_1), if_pos hb50_1, if_neg hb103_2]
        exact ⟨rfl, rfl⟩
    · skip
      refine j_aload_n rfl rfl ?_
      refine j_getR (q := o) rfl f_X10_25 rfl (hS.lt (by decide)) (hS.k (by decide) (by decide)) hs ?_
      refine j_getR (q := (o + 6)) rfl f_X10_128 rfl hO.1 hO.2.1 (hO.q 5 6 13 6 (by decide)).1 ?_
      refine j_aload_n rfl rfl ?_
      refine j_getR (q := x) rfl f_X10_57 rfl (hS.lt (by decide)) (hS.k (by decide) (by decide)) hbx ?_
      refine j_getI rfl f_X10_79 rfl hB.1 hB.2.1 ?_
      have u65_1 := mi_rng m x 0
      refine j_dup2 rfl (Nat.ne_of_beq_eq_false rfl) (Nat.ne_of_beq_eq_false rfl) ?_
      refine j_iald (n := 6) rfl (hO.q 5 6 13 6 (by decide)).2.1 (hO.q 5 6 13 6 (by decide)).2.2.1 (hO.q 5 6 13 6 (by decide)).2.2.2 (by omega) (by omega) (by decide) ?_
      have u69_1 := mi_rng m (o + 6) (mi m x 0).toNat
      refine j_iconst rfl ?_
      refine j_iload_n rfl rfl ?_
      refine j_ishl rfl ?_
      have z72_1 := z_ishl_rng 1 l
      refine j_ior rfl ?_
      have z73_1 := z_ior_rng (mi m (o + 6) (mi m x 0).toNat) (z_ishl 1 l)
      refine j_iast (n := 6) rfl (hO.q 5 6 13 6 (by decide)).2.1 (hO.q 5 6 13 6 (by decide)).2.2.1 (hO.q 5 6 13 6 (by decide)).2.2.2 (by omega) (by omega) (by first | decide | omega) ?_
      refine j_aload_n rfl rfl ?_
      refine j_aload_n rfl rfl ?_
      refine j_getR (q := p) rfl f_X10_67 rfl (hS.lt (by decide)) (hS.k (by decide) (by decide)) hpg ?_
      refine j_getI rfl f_X10_131 rfl hP.1 hP.2.1 ?_
      rw [show mi (si m (o + 6) (mi m x 0).toNat (z_ior (mi m (o + 6) (mi m x 0).toNat) (z_ishl 1 l))) p 8 = mi m p 8 from by simp [mi_si, hxo, hx17, hpo, hp17]]
      have u80_1 := mi_rng m p 8
      refine j_iload_n rfl rfl ?_
      refine j_ishr rfl ?_
      have z84_1 := z_ishr_rng (mi m p 8) l
      refine j_iconst rfl ?_
      refine j_iand rfl ?_
      have z86_1 := z_iand_rng (z_ishr (mi m p 8) l) 1
      refine j_iconst rfl ?_
      refine j_icmp_ne (tgt := 95) rfl (by decide) (by omega) (by omega) (by omega) (by omega) (fun hb88_1 => ?_) (fun hb88_1 => ?_)
      · skip
        refine j_iconst rfl ?_
        refine j_putI rfl f_X10_84 rfl (hS.lt (by decide)) (hS.k (by decide) (by decide)) ?_
        refine j_aload_n rfl rfl ?_
        refine j_getI rfl f_X10_84 rfl (hS.lt (by decide)) (hS.k (by decide) (by decide)) ?_
        rw [show mi (si (si m (o + 6) (mi m x 0).toNat (z_ior (mi m (o + 6) (mi m x 0).toNat) (z_ishl 1 l))) 17 9 1) 17 9 = 1 from mi_si_same _ _ _ (by decide) (by decide)]
        refine j_if_eq (tgt := 107) rfl (by decide) (by omega) (by omega) (fun hb103_3 => ?_) (fun hb103_3 => ?_)
        · skip
          refine j_iload rfl rfl ?_
          refine j_bipush rfl (by decide) ?_
          refine j_icmp_ge (tgt := 141) rfl (by decide) (by omega) (by omega) (by omega) (by omega) (fun hb111_3 => ?_) (fun hb111_3 => ?_)
          · skip
            refine j_aload_n rfl rfl ?_
            refine j_getR (q := o) rfl f_X10_25 rfl (hS.lt (by decide)) (hS.k (by decide) (by decide)) hs ?_
            refine j_getR (q := (o + 2)) rfl f_X10_33 rfl hO.1 hO.2.1 (hO.q 1 2 13 24 (by decide)).1 ?_
            refine j_aload_n rfl rfl ?_
            refine j_getR (q := x) rfl f_X10_57 rfl (hS.lt (by decide)) (hS.k (by decide) (by decide)) hbx ?_
            refine j_getI rfl f_X10_79 rfl hB.1 hB.2.1 ?_
            rw [show mi (si (si m (o + 6) (mi m x 0).toNat (z_ior (mi m (o + 6) (mi m x 0).toNat) (z_ishl 1 l))) 17 9 1) x 0 = mi m x 0 from by simp [mi_si, hxo, hx17, hpo, hp17]]
            have u152_3 := mi_rng m x 0
            refine j_iconst rfl ?_
            refine j_imul rfl ?_
            refine j_iload rfl rfl ?_
            refine j_iadd rfl ?_
            refine j_bipush rfl (by decide) ?_
            refine j_isub rfl ?_
            refine j_lload rfl rfl ?_
            refine j_l2iW rfl ?_
            have z165_3 := z_l2i_rng (FJ9_max_f86c9 m ((-(FX1_greatestFor m x (mi m (p + 5) l.toNat))) - 1) (FJ9_min_f86c9 m (FX1_greatestFor m x (mi m (p + 5) l.toNat)) v))
            refine j_iast (n := 24) rfl (hO.q 1 2 13 24 (by decide)).2.1 (hO.q 1 2 13 24 (by decide)).2.2.1 (hO.q 1 2 13 24 (by decide)).2.2.2 (by omega) (by omega) (by first | decide | omega) ?_
            refine j_vret rfl rfl ?_ rfl (Nat.le_refl _)
            unfold FX10_send
            rw [if_neg (not_not_intro hb44_1), if_neg hb50_1, if_pos hb88_1, if_pos hb103_3, if_pos hb111_3]
            exact ⟨rfl, rfl⟩
          · skip
            refine j_aload_n rfl rfl ?_
            refine j_getR (q := o) rfl f_X10_25 rfl (hS.lt (by decide)) (hS.k (by decide) (by decide)) hs ?_
            refine j_getR (q := (o + 1)) rfl f_X10_134 rfl hO.1 hO.2.1 (hO.q 0 1 13 48 (by decide)).1 ?_
            refine j_aload_n rfl rfl ?_
            refine j_getR (q := x) rfl f_X10_57 rfl (hS.lt (by decide)) (hS.k (by decide) (by decide)) hbx ?_
            refine j_getI rfl f_X10_79 rfl hB.1 hB.2.1 ?_
            rw [show mi (si (si m (o + 6) (mi m x 0).toNat (z_ior (mi m (o + 6) (mi m x 0).toNat) (z_ishl 1 l))) 17 9 1) x 0 = mi m x 0 from by simp [mi_si, hxo, hx17, hpo, hp17]]
            have u125_3 := mi_rng m x 0
            refine j_bipush rfl (by decide) ?_
            refine j_imul rfl ?_
            refine j_iload rfl rfl ?_
            refine j_iadd rfl ?_
            refine j_lload rfl rfl ?_
            refine j_l2iW rfl ?_
            have z136_3 := z_l2i_rng (FJ9_max_f86c9 m ((-(FX1_greatestFor m x (mi m (p + 5) l.toNat))) - 1) (FJ9_min_f86c9 m (FX1_greatestFor m x (mi m (p + 5) l.toNat)) v))
            refine j_iast (n := 48) rfl (hO.q 0 1 13 48 (by decide)).2.1 (hO.q 0 1 13 48 (by decide)).2.2.1 (hO.q 0 1 13 48 (by decide)).2.2.2 (by omega) (by omega) (by first | decide | omega) ?_
            refine j_goto (tgt := 167) rfl (by decide) ?_
            refine j_vret rfl rfl ?_ rfl (Nat.le_refl _)
            unfold FX10_send
            rw [if_neg (not_not_intro hb44_1), if_neg hb50_1, if_pos hb88_1, if_pos hb103_3, if_neg hb111_3]
            exact ⟨rfl, rfl⟩
        · skip
          refine j_vret rfl rfl ?_ rfl (Nat.le_refl _)
          unfold FX10_send
          rw [if_neg (not_not_intro hb44_1), if_neg hb50_1, if_pos hb88_1, if_neg hb103_3]
          exact ⟨rfl, rfl⟩
      · skip
        refine j_iconst rfl ?_
        refine j_goto (tgt := 96) rfl (by decide) ?_
        refine j_putI rfl f_X10_84 rfl (hS.lt (by decide)) (hS.k (by decide) (by decide)) ?_
        refine j_aload_n rfl rfl ?_
        refine j_getI rfl f_X10_84 rfl (hS.lt (by decide)) (hS.k (by decide) (by decide)) ?_
        rw [show mi (si (si m (o + 6) (mi m x 0).toNat (z_ior (mi m (o + 6) (mi m x 0).toNat) (z_ishl 1 l))) 17 9 0) 17 9 = 0 from mi_si_same _ _ _ (by decide) (by decide)]
        refine j_if_eq (tgt := 107) rfl (by decide) (by omega) (by omega) (fun hb103_4 => ?_) (fun hb103_4 => ?_)
        · skip
          refine j_iload rfl rfl ?_
          refine j_bipush rfl (by decide) ?_
          refine j_icmp_ge (tgt := 141) rfl (by decide) (by omega) (by omega) (by omega) (by omega) (fun hb111_4 => ?_) (fun hb111_4 => ?_)
          · skip
            refine j_aload_n rfl rfl ?_
            refine j_getR (q := o) rfl f_X10_25 rfl (hS.lt (by decide)) (hS.k (by decide) (by decide)) hs ?_
            refine j_getR (q := (o + 2)) rfl f_X10_33 rfl hO.1 hO.2.1 (hO.q 1 2 13 24 (by decide)).1 ?_
            refine j_aload_n rfl rfl ?_
            refine j_getR (q := x) rfl f_X10_57 rfl (hS.lt (by decide)) (hS.k (by decide) (by decide)) hbx ?_
            refine j_getI rfl f_X10_79 rfl hB.1 hB.2.1 ?_
            rw [show mi (si (si m (o + 6) (mi m x 0).toNat (z_ior (mi m (o + 6) (mi m x 0).toNat) (z_ishl 1 l))) 17 9 0) x 0 = mi m x 0 from by simp [mi_si, hxo, hx17, hpo, hp17]]
            have u152_4 := mi_rng m x 0
            refine j_iconst rfl ?_
            refine j_imul rfl ?_
            refine j_iload rfl rfl ?_
            refine j_iadd rfl ?_
            refine j_bipush rfl (by decide) ?_
            refine j_isub rfl ?_
            refine j_lload rfl rfl ?_
            refine j_l2iW rfl ?_
            have z165_4 := z_l2i_rng (FJ9_max_f86c9 m ((-(FX1_greatestFor m x (mi m (p + 5) l.toNat))) - 1) (FJ9_min_f86c9 m (FX1_greatestFor m x (mi m (p + 5) l.toNat)) v))
            refine j_iast (n := 24) rfl (hO.q 1 2 13 24 (by decide)).2.1 (hO.q 1 2 13 24 (by decide)).2.2.1 (hO.q 1 2 13 24 (by decide)).2.2.2 (by omega) (by omega) (by first | decide | omega) ?_
            refine j_vret rfl rfl ?_ rfl (Nat.le_refl _)
            unfold FX10_send
            rw [if_neg (not_not_intro hb44_1), if_neg hb50_1, if_neg (not_not_intro hb88_1), if_pos hb103_4, if_pos hb111_4]
            exact ⟨rfl, rfl⟩
          · skip
            refine j_aload_n rfl rfl ?_
            refine j_getR (q := o) rfl f_X10_25 rfl (hS.lt (by decide)) (hS.k (by decide) (by decide)) hs ?_
            refine j_getR (q := (o + 1)) rfl f_X10_134 rfl hO.1 hO.2.1 (hO.q 0 1 13 48 (by decide)).1 ?_
            refine j_aload_n rfl rfl ?_
            refine j_getR (q := x) rfl f_X10_57 rfl (hS.lt (by decide)) (hS.k (by decide) (by decide)) hbx ?_
            refine j_getI rfl f_X10_79 rfl hB.1 hB.2.1 ?_
            rw [show mi (si (si m (o + 6) (mi m x 0).toNat (z_ior (mi m (o + 6) (mi m x 0).toNat) (z_ishl 1 l))) 17 9 0) x 0 = mi m x 0 from by simp [mi_si, hxo, hx17, hpo, hp17]]
            have u125_4 := mi_rng m x 0
            refine j_bipush rfl (by decide) ?_
            refine j_imul rfl ?_
            refine j_iload rfl rfl ?_
            refine j_iadd rfl ?_
            refine j_lload rfl rfl ?_
            refine j_l2iW rfl ?_
            have z136_4 := z_l2i_rng (FJ9_max_f86c9 m ((-(FX1_greatestFor m x (mi m (p + 5) l.toNat))) - 1) (FJ9_min_f86c9 m (FX1_greatestFor m x (mi m (p + 5) l.toNat)) v))
            refine j_iast (n := 48) rfl (hO.q 0 1 13 48 (by decide)).2.1 (hO.q 0 1 13 48 (by decide)).2.2.1 (hO.q 0 1 13 48 (by decide)).2.2.2 (by omega) (by omega) (by first | decide | omega) ?_
            refine j_goto (tgt := 167) rfl (by decide) ?_
            refine j_vret rfl rfl ?_ rfl (Nat.le_refl _)
            unfold FX10_send
            rw [if_neg (not_not_intro hb44_1), if_neg hb50_1, if_neg (not_not_intro hb88_1), if_pos hb103_4, if_neg hb111_4]
            exact ⟨rfl, rfl⟩
        · skip
          refine j_vret rfl rfl ?_ rfl (Nat.le_refl _)
          unfold FX10_send
          rw [if_neg (not_not_intro hb44_1), if_neg hb50_1, if_neg (not_not_intro hb88_1), if_neg hb103_4]
          exact ⟨rfl, rfl⟩


def FX10_valueOf (m : AM) (o : Nat) (x : Nat) (what : Int) (n : Int) : Int :=
  if what = 1 then
    mi m (o + 1) (((mi m x 0) * 8) + n).toNat
  else
    if what = 3 then
      mi m 20 n.toNat
    else
      if what = 4 then
        mi m 17 7
      else
        if what = 5 then
          mi m 17 8
        else
          n
set_option maxRecDepth 20000 in
set_option maxHeartbeats 4000000 in
theorem ct_X10_valueOf {G : QW} {m : AM} (hS : St m) (hI : IM m) {o : Nat} {x : Nat} {what : Int} {n : Int} (hwhat1 : -2147483648 ≤ what) (hwhat2 : what < 2147483648) (hn1 : -2147483648 ≤ n) (hn2 : n < 2147483648) (hO : ObA m o 9 fsStand) (hs : mr m 17 4 = some o) (hB : ObA m x 1 fsBox) (hbx : mr m 17 5 = some x) (hx0 : 0 ≤ mi m x 0 ∧ mi m x 0 ≤ 5) (h4 : 0 ≤ n) (h5 : n ≤ 7 ∨ (what ≠ 1 ∧ what ≠ 3)) (h6 : what = 3 → n ≤ 2) : qM G mX10_valueOf 0 0 0 [vR 17, vI what, vI n] m (fun r m' => r = some (vI (FX10_valueOf m o x what n)) ∧ m' = m) := by
  refine qM.intro okX10_valueOf (Nat.le_of_ble_eq_true rfl) ?_
  refine j_iload_n rfl rfl ?_
  by_cases hs1_1_1 : what = 1
  · skip
    refine j_tableIn (tgt := 36) rfl (by omega) (by omega) (by omega) (by omega) (by rw [hs1_1_1]; rfl) (by decide) ?_
    refine j_aload_n rfl rfl ?_
    refine j_getR (q := o) rfl f_X10_25 rfl (hS.lt (by decide)) (hS.k (by decide) (by decide)) hs ?_
    refine j_getR (q := (o + 1)) rfl f_X10_134 rfl hO.1 hO.2.1 (hO.q 0 1 13 48 (by decide)).1 ?_
    refine j_aload_n rfl rfl ?_
    refine j_getR (q := x) rfl f_X10_57 rfl (hS.lt (by decide)) (hS.k (by decide) (by decide)) hbx ?_
    refine j_getI rfl f_X10_79 rfl hB.1 hB.2.1 ?_
    have u47_1 := mi_rng m x 0
    refine j_bipush rfl (by decide) ?_
    refine j_imul rfl ?_
    refine j_iload_n rfl rfl ?_
    refine j_iadd rfl ?_
    refine j_iald (n := 48) rfl (hO.q 0 1 13 48 (by decide)).2.1 (hO.q 0 1 13 48 (by decide)).2.2.1 (hO.q 0 1 13 48 (by decide)).2.2.2 (by omega) (by omega) (by decide) ?_
    have u55_1 := mi_rng m (o + 1) (((mi m x 0) * 8) + n).toNat
    refine j_iret rfl rfl ?_ rfl (Nat.le_refl _)
    unfold FX10_valueOf
    rw [if_pos hs1_1_1]
    exact ⟨rfl, rfl⟩
  · skip
    by_cases hs1_1_3 : what = 3
    · skip
      refine j_tableIn (tgt := 57) rfl (by omega) (by omega) (by omega) (by omega) (by rw [hs1_1_3]; rfl) (by decide) ?_
      refine j_aload_n rfl rfl ?_
      refine j_getR (q := 20) rfl f_X10_18 rfl (hS.lt (by decide)) (hS.k (by decide) (by decide)) (hS.r (by decide)) ?_
      refine j_iload_n rfl rfl ?_
      refine j_iald (n := 3) rfl (hS.lt (by decide)) (hS.k (by decide) (by decide)) (hS.n (by decide) (by decide)) (by omega) (by omega) (by decide) ?_
      have u62_1 := mi_rng m 20 n.toNat
      refine j_iret rfl rfl ?_ rfl (Nat.le_refl _)
      unfold FX10_valueOf
      rw [if_neg hs1_1_1, if_pos hs1_1_3]
      exact ⟨rfl, rfl⟩
    · skip
      by_cases hs1_1_4 : what = 4
      · skip
        refine j_tableIn (tgt := 64) rfl (by omega) (by omega) (by omega) (by omega) (by rw [hs1_1_4]; rfl) (by decide) ?_
        refine j_aload_n rfl rfl ?_
        refine j_getI rfl f_X10_29 rfl (hS.lt (by decide)) (hS.k (by decide) (by decide)) ?_
        have u65_1 := mi_rng m 17 7
        refine j_iret rfl rfl ?_ rfl (Nat.le_refl _)
        unfold FX10_valueOf
        rw [if_neg hs1_1_1, if_neg hs1_1_3, if_pos hs1_1_4]
        exact ⟨rfl, rfl⟩
      · skip
        by_cases hs1_1_5 : what = 5
        · skip
          refine j_tableIn (tgt := 69) rfl (by omega) (by omega) (by omega) (by omega) (by rw [hs1_1_5]; rfl) (by decide) ?_
          refine j_aload_n rfl rfl ?_
          refine j_getI rfl f_X10_82 rfl (hS.lt (by decide)) (hS.k (by decide) (by decide)) ?_
          have u70_1 := mi_rng m 17 8
          refine j_iret rfl rfl ?_ rfl (Nat.le_refl _)
          unfold FX10_valueOf
          rw [if_neg hs1_1_1, if_neg hs1_1_3, if_neg hs1_1_4, if_pos hs1_1_5]
          exact ⟨rfl, rfl⟩
        · skip
          refine j_tableDef (tgt := 74) rfl (by omega) (by omega) (by rcases (show what < 1 ∨ 5 < what ∨ what = 2 from by omega) with q | q | q <;> first | exact Or.inl q | exact Or.inr (Or.inl q) | (rw [q]; exact Or.inr (Or.inr rfl))) (by decide) ?_
          refine j_iload_n rfl rfl ?_
          refine j_iret rfl rfl ?_ rfl (Nat.le_refl _)
          unfold FX10_valueOf
          rw [if_neg hs1_1_1, if_neg hs1_1_3, if_neg hs1_1_4, if_neg hs1_1_5]
          exact ⟨rfl, rfl⟩

def FX10_inputOf (m : AM) (x : Nat) (wire : Int) : Int × AM :=
  if wire ≥ 0 then
    if (mi m 19 (wire / 10).toNat) ≠ 0 then
      if (mi m x 1) ≠ 2 then
        (0, (si m 17 9 4))
      else
        (9000 + (mi m 19 (wire / 10).toNat), m)
    else
      (mi m 18 (((wire / 10) * 4) + (wire % 10)).toNat, m)
  else
    (0, m)
set_option maxRecDepth 20000 in
set_option maxHeartbeats 4000000 in
theorem ct_X10_inputOf {G : QW} {m : AM} (hS : St m) (hI : IM m) {x : Nat} {wire : Int} (hwire1 : -2147483648 ≤ wire) (hwire2 : wire < 2147483648) (hB : ObA m x 1 fsBox) (hbx : mr m 17 5 = some x) (h4 : -1 ≤ wire) (h5 : wire ≤ 53) (h6 : 0 ≤ wire → wire % 10 ≤ 3) (h7 : ∀ j : Nat, 0 ≤ mi m 19 j ∧ mi m 19 j ≤ 100) : qM G mX10_inputOf 0 0 0 [vR 17, vI wire] m (fun r m' => r = some (vI (FX10_inputOf m x wire).1) ∧ m' = (FX10_inputOf m x wire).2) := by
  refine qM.intro okX10_inputOf (Nat.le_of_ble_eq_true rfl) ?_
  refine j_iload_n rfl rfl ?_
  refine j_if_ge (tgt := 6) rfl (by decide) (by omega) (by omega) (fun hb1_1 => ?_) (fun hb1_1 => ?_)
  · skip
    refine j_aload_n rfl rfl ?_
    refine j_getR (q := 19) rfl f_X10_15 rfl (hS.lt (by decide)) (hS.k (by decide) (by decide)) (hS.r (by decide)) ?_
    refine j_iload_n rfl rfl ?_
    refine j_bipush rfl (by decide) ?_
    refine j_idivN rfl (by omega) (by omega) (by omega) (by omega) ?_
    refine j_iald (n := 6) rfl (hS.lt (by decide)) (hS.k (by decide) (by decide)) (hS.n (by decide) (by decide)) (by omega) (by omega) (by decide) ?_
    have u14_1 := mi_rng m 19 (wire / 10).toNat
    refine j_istore_n rfl (by decide) ?_
    have h7b := h7 (wire / 10).toNat
    refine j_iload_n rfl rfl ?_
    refine j_if_ne (tgt := 37) rfl (by decide) (by omega) (by omega) (fun hb17_1 => ?_) (fun hb17_1 => ?_)
    · skip
      refine j_aload_n rfl rfl ?_
      refine j_getR (q := x) rfl f_X10_57 rfl (hS.lt (by decide)) (hS.k (by decide) (by decide)) hbx ?_
      refine j_getI rfl f_X10_154 rfl hB.1 hB.2.1 ?_
      have u41_1 := mi_rng m x 1
      refine j_iconst rfl ?_
      refine j_icmp_ne (tgt := 54) rfl (by decide) (by omega) (by omega) (by omega) (by omega) (fun hb45_1 => ?_) (fun hb45_1 => ?_)
      · skip
        refine j_aload_n rfl rfl ?_
        refine j_iconst rfl ?_
        refine j_putI rfl f_X10_84 rfl (hS.lt (by decide)) (hS.k (by decide) (by decide)) ?_
        refine j_iconst rfl ?_
        refine j_iret rfl rfl ?_ rfl (Nat.le_refl _)
        unfold FX10_inputOf
        rw [if_pos hb1_1, if_pos hb17_1, if_pos hb45_1]
        exact ⟨rfl, rfl⟩
      · skip
        refine j_sipush rfl (by decide) ?_
        refine j_iload_n rfl rfl ?_
        refine j_iadd rfl ?_
        refine j_iret rfl rfl ?_ rfl (Nat.le_refl _)
        unfold FX10_inputOf
        rw [if_pos hb1_1, if_pos hb17_1, if_neg (not_not_intro hb45_1)]
        exact ⟨rfl, rfl⟩
    · skip
      refine j_aload_n rfl rfl ?_
      refine j_getR (q := 18) rfl f_X10_9 rfl (hS.lt (by decide)) (hS.k (by decide) (by decide)) (hS.r (by decide)) ?_
      refine j_iload_n rfl rfl ?_
      refine j_bipush rfl (by decide) ?_
      refine j_idivN rfl (by omega) (by omega) (by omega) (by omega) ?_
      refine j_iconst rfl ?_
      refine j_imul rfl ?_
      refine j_iload_n rfl rfl ?_
      refine j_bipush rfl (by decide) ?_
      refine j_iremN rfl (by omega) (by omega) (by omega) (by omega) ?_
      refine j_iadd rfl ?_
      refine j_iald (n := 24) rfl (hS.lt (by decide)) (hS.k (by decide) (by decide)) (hS.n (by decide) (by decide)) (by omega) (by omega) (by decide) ?_
      have u35_1 := mi_rng m 18 (((wire / 10) * 4) + (wire % 10)).toNat
      refine j_iret rfl rfl ?_ rfl (Nat.le_refl _)
      unfold FX10_inputOf
      rw [if_pos hb1_1, if_neg (not_not_intro hb17_1)]
      exact ⟨rfl, rfl⟩
  · skip
    refine j_iconst rfl ?_
    refine j_iret rfl rfl ?_ rfl (Nat.le_refl _)
    unfold FX10_inputOf
    rw [if_neg hb1_1]
    exact ⟨rfl, rfl⟩

def FX10_join (m : AM) (what : Int) (a : Int) (b : Int) : Int × AM :=
  if what = 7 then
    if a ≠ 0 then
      (1, m)
    else
      if b = 0 then
        (0, m)
      else
        (1, m)
  else
    if what = 8 then
      if a = 0 then
        (0, m)
      else
        if b = 0 then
          (0, m)
        else
          (1, m)
    else
      if what = 9 then
        if a ≥ b then
          (0, m)
        else
          (1, m)
      else
        if what = 10 then
          if a ≠ b then
            (0, m)
          else
            (1, m)
        else
          if what = 11 then
            if a ≤ b then
              (0, m)
            else
              (1, m)
          else
            if what = 12 then
              if (a + b) > 1000000000 then
                (a + b, (si m 17 9 2))
              else
                if (a + b) ≥ (-1000000000) then
                  (a + b, m)
                else
                  (a + b, (si m 17 9 2))
            else
              if what = 13 then
                if (a - b) > 1000000000 then
                  (a - b, (si m 17 9 2))
                else
                  if (a - b) ≥ (-1000000000) then
                    (a - b, m)
                  else
                    (a - b, (si m 17 9 2))
              else
                if what = 14 then
                  if (a * b) > 1000000000 then
                    (a * b, (si m 17 9 2))
                  else
                    if (a * b) ≥ (-1000000000) then
                      (a * b, m)
                    else
                      (a * b, (si m 17 9 2))
                else
                  if b ≠ 0 then
                    if what ≠ 15 then
                      (a.tmod b, m)
                    else
                      (a.tdiv b, m)
                  else
                    (0, (si m 17 9 3))
set_option maxRecDepth 20000 in
set_option maxHeartbeats 4000000 in
theorem ct_X10_join {G : QW} {m : AM} (hS : St m) (hI : IM m) {what : Int} {a : Int} {b : Int} (hwhat1 : -2147483648 ≤ what) (hwhat2 : what < 2147483648) (hw : 7 ≤ what ∧ what ≤ 16) (ha : -4000000000 ≤ a ∧ a ≤ 4000000000) (hb : -4000000000 ≤ b ∧ b ≤ 4000000000) (hab : -9000000000000000000 ≤ a * b ∧ a * b ≤ 9000000000000000000) : qM G mX10_join 0 0 0 [vR 17, vI what, vL a, vL b] m (fun r m' => r = some (vL (FX10_join m what a b).1) ∧ m' = (FX10_join m what a b).2) := by
  refine qM.intro okX10_join (Nat.le_of_ble_eq_true rfl) ?_
  refine j_iload_n rfl rfl ?_
  by_cases hs1_1_7 : what = 7
  · skip
    refine j_tableIn (tgt := 48) rfl (by omega) (by omega) (by omega) (by omega) (by rw [hs1_1_7]; rfl) (by decide) ?_
    refine j_lload_n rfl rfl ?_
    refine j_lconst (v := 0) rfl (by decide) ?_
    refine j_lc_ne (tgt := 61) rfl rfl (by decide) (by omega) (by omega) (by omega) (by omega) (fun hb50_1 => ?_) (fun hb50_1 => ?_)
    · skip
      refine j_lconst (v := 1) rfl (by decide) ?_
      refine j_goto (tgt := 66) rfl (by decide) ?_
      refine j_lret rfl rfl ?_ rfl (Nat.le_refl _)
      unfold FX10_join
      rw [if_pos hs1_1_7, if_pos hb50_1]
      exact ⟨rfl, rfl⟩
    · skip
      refine j_lload rfl rfl ?_
      refine j_lconst (v := 0) rfl (by decide) ?_
      refine j_lc_eq (tgt := 65) rfl rfl (by decide) (by omega) (by omega) (by omega) (by omega) (fun hb57_1 => ?_) (fun hb57_1 => ?_)
      · skip
        refine j_lconst (v := 0) rfl (by decide) ?_
        refine j_lret rfl rfl ?_ rfl (Nat.le_refl _)
        unfold FX10_join
        rw [if_pos hs1_1_7, if_neg (not_not_intro hb50_1), if_pos hb57_1]
        exact ⟨rfl, rfl⟩
      · skip
        refine j_lconst (v := 1) rfl (by decide) ?_
        refine j_goto (tgt := 66) rfl (by decide) ?_
        refine j_lret rfl rfl ?_ rfl (Nat.le_refl _)
        unfold FX10_join
        rw [if_pos hs1_1_7, if_neg (not_not_intro hb50_1), if_neg hb57_1]
        exact ⟨rfl, rfl⟩
  · skip
    by_cases hs1_1_8 : what = 8
    · skip
      refine j_tableIn (tgt := 67) rfl (by omega) (by omega) (by omega) (by omega) (by rw [hs1_1_8]; rfl) (by decide) ?_
      refine j_lload_n rfl rfl ?_
      refine j_lconst (v := 0) rfl (by decide) ?_
      refine j_lc_eq (tgt := 84) rfl rfl (by decide) (by omega) (by omega) (by omega) (by omega) (fun hb69_1 => ?_) (fun hb69_1 => ?_)
      · skip
        refine j_lconst (v := 0) rfl (by decide) ?_
        refine j_lret rfl rfl ?_ rfl (Nat.le_refl _)
        unfold FX10_join
        rw [if_neg hs1_1_7, if_pos hs1_1_8, if_pos hb69_1]
        exact ⟨rfl, rfl⟩
      · skip
        refine j_lload rfl rfl ?_
        refine j_lconst (v := 0) rfl (by decide) ?_
        refine j_lc_eq (tgt := 84) rfl rfl (by decide) (by omega) (by omega) (by omega) (by omega) (fun hb76_1 => ?_) (fun hb76_1 => ?_)
        · skip
          refine j_lconst (v := 0) rfl (by decide) ?_
          refine j_lret rfl rfl ?_ rfl (Nat.le_refl _)
          unfold FX10_join
          rw [if_neg hs1_1_7, if_pos hs1_1_8, if_neg hb69_1, if_pos hb76_1]
          exact ⟨rfl, rfl⟩
        · skip
          refine j_lconst (v := 1) rfl (by decide) ?_
          refine j_goto (tgt := 85) rfl (by decide) ?_
          refine j_lret rfl rfl ?_ rfl (Nat.le_refl _)
          unfold FX10_join
          rw [if_neg hs1_1_7, if_pos hs1_1_8, if_neg hb69_1, if_neg hb76_1]
          exact ⟨rfl, rfl⟩
    · skip
      by_cases hs1_1_9 : what = 9
      · skip
        refine j_tableIn (tgt := 86) rfl (by omega) (by omega) (by omega) (by omega) (by rw [hs1_1_9]; rfl) (by decide) ?_
        refine j_lload_n rfl rfl ?_
        refine j_lload rfl rfl ?_
        refine j_lc_ge (tgt := 97) rfl rfl (by decide) (by omega) (by omega) (by omega) (by omega) (fun hb89_1 => ?_) (fun hb89_1 => ?_)
        · skip
          refine j_lconst (v := 0) rfl (by decide) ?_
          refine j_lret rfl rfl ?_ rfl (Nat.le_refl _)
          unfold FX10_join
          rw [if_neg hs1_1_7, if_neg hs1_1_8, if_pos hs1_1_9, if_pos hb89_1]
          exact ⟨rfl, rfl⟩
        · skip
          refine j_lconst (v := 1) rfl (by decide) ?_
          refine j_goto (tgt := 98) rfl (by decide) ?_
          refine j_lret rfl rfl ?_ rfl (Nat.le_refl _)
          unfold FX10_join
          rw [if_neg hs1_1_7, if_neg hs1_1_8, if_pos hs1_1_9, if_neg hb89_1]
          exact ⟨rfl, rfl⟩
      · skip
        by_cases hs1_1_10 : what = 10
        · skip
          refine j_tableIn (tgt := 99) rfl (by omega) (by omega) (by omega) (by omega) (by rw [hs1_1_10]; rfl) (by decide) ?_
          refine j_lload_n rfl rfl ?_
          refine j_lload rfl rfl ?_
          refine j_lc_ne (tgt := 110) rfl rfl (by decide) (by omega) (by omega) (by omega) (by omega) (fun hb102_1 => ?_) (fun hb102_1 => ?_)
          · skip
            refine j_lconst (v := 0) rfl (by decide) ?_
            refine j_lret rfl rfl ?_ rfl (Nat.le_refl _)
            unfold FX10_join
            rw [if_neg hs1_1_7, if_neg hs1_1_8, if_neg hs1_1_9, if_pos hs1_1_10, if_pos hb102_1]
            exact ⟨rfl, rfl⟩
          · skip
            refine j_lconst (v := 1) rfl (by decide) ?_
            refine j_goto (tgt := 111) rfl (by decide) ?_
            refine j_lret rfl rfl ?_ rfl (Nat.le_refl _)
            unfold FX10_join
            rw [if_neg hs1_1_7, if_neg hs1_1_8, if_neg hs1_1_9, if_pos hs1_1_10, if_neg (not_not_intro hb102_1)]
            exact ⟨rfl, rfl⟩
        · skip
          by_cases hs1_1_11 : what = 11
          · skip
            refine j_tableIn (tgt := 112) rfl (by omega) (by omega) (by omega) (by omega) (by rw [hs1_1_11]; rfl) (by decide) ?_
            refine j_lload_n rfl rfl ?_
            refine j_lload rfl rfl ?_
            refine j_lc_le (tgt := 123) rfl rfl (by decide) (by omega) (by omega) (by omega) (by omega) (fun hb115_1 => ?_) (fun hb115_1 => ?_)
            · skip
              refine j_lconst (v := 0) rfl (by decide) ?_
              refine j_lret rfl rfl ?_ rfl (Nat.le_refl _)
              unfold FX10_join
              rw [if_neg hs1_1_7, if_neg hs1_1_8, if_neg hs1_1_9, if_neg hs1_1_10, if_pos hs1_1_11, if_pos hb115_1]
              exact ⟨rfl, rfl⟩
            · skip
              refine j_lconst (v := 1) rfl (by decide) ?_
              refine j_goto (tgt := 124) rfl (by decide) ?_
              refine j_lret rfl rfl ?_ rfl (Nat.le_refl _)
              unfold FX10_join
              rw [if_neg hs1_1_7, if_neg hs1_1_8, if_neg hs1_1_9, if_neg hs1_1_10, if_pos hs1_1_11, if_neg hb115_1]
              exact ⟨rfl, rfl⟩
          · skip
            by_cases hs1_1_12 : what = 12
            · skip
              refine j_tableIn (tgt := 125) rfl (by omega) (by omega) (by omega) (by omega) (by rw [hs1_1_12]; rfl) (by decide) ?_
              refine j_lload_n rfl rfl ?_
              refine j_lload rfl rfl ?_
              refine j_ladd rfl ?_
              refine j_lstore rfl (by decide) ?_
              refine j_goto (tgt := 184) rfl (by decide) ?_
              refine j_lload rfl rfl ?_
              refine j_ldc2 (v := 1000000000) rfl k_X10_157 ?_
              refine j_lc_gt (tgt := 202) rfl rfl (by decide) (by omega) (by omega) (by omega) (by omega) (fun hb189_1 => ?_) (fun hb189_1 => ?_)
              · skip
                refine j_aload_n rfl rfl ?_
                refine j_iconst rfl ?_
                refine j_putI rfl f_X10_84 rfl (hS.lt (by decide)) (hS.k (by decide) (by decide)) ?_
                refine j_lload rfl rfl ?_
                refine j_lret rfl rfl ?_ rfl (Nat.le_refl _)
                unfold FX10_join
                rw [if_neg hs1_1_7, if_neg hs1_1_8, if_neg hs1_1_9, if_neg hs1_1_10, if_neg hs1_1_11, if_pos hs1_1_12, if_pos hb189_1]
                exact ⟨rfl, rfl⟩
              · skip
                refine j_lload rfl rfl ?_
                refine j_ldc2 (v := -1000000000) rfl k_X10_159 ?_
                refine j_lc_ge (tgt := 207) rfl rfl (by decide) (by omega) (by omega) (by omega) (by omega) (fun hb198_1 => ?_) (fun hb198_1 => ?_)
                · skip
                  refine j_lload rfl rfl ?_
                  refine j_lret rfl rfl ?_ rfl (Nat.le_refl _)
                  unfold FX10_join
                  rw [if_neg hs1_1_7, if_neg hs1_1_8, if_neg hs1_1_9, if_neg hs1_1_10, if_neg hs1_1_11, if_pos hs1_1_12, if_neg hb189_1, if_pos hb198_1]
                  exact ⟨rfl, rfl⟩
                · skip
                  refine j_aload_n rfl rfl ?_
                  refine j_iconst rfl ?_
                  refine j_putI rfl f_X10_84 rfl (hS.lt (by decide)) (hS.k (by decide) (by decide)) ?_
                  refine j_lload rfl rfl ?_
                  refine j_lret rfl rfl ?_ rfl (Nat.le_refl _)
                  unfold FX10_join
                  rw [if_neg hs1_1_7, if_neg hs1_1_8, if_neg hs1_1_9, if_neg hs1_1_10, if_neg hs1_1_11, if_pos hs1_1_12, if_neg hb189_1, if_neg hb198_1]
                  exact ⟨rfl, rfl⟩
            · skip
              by_cases hs1_1_13 : what = 13
              · skip
                refine j_tableIn (tgt := 134) rfl (by omega) (by omega) (by omega) (by omega) (by rw [hs1_1_13]; rfl) (by decide) ?_
                refine j_lload_n rfl rfl ?_
                refine j_lload rfl rfl ?_
                refine j_lsub rfl ?_
                refine j_lstore rfl (by decide) ?_
                refine j_goto (tgt := 184) rfl (by decide) ?_
                refine j_lload rfl rfl ?_
                refine j_ldc2 (v := 1000000000) rfl k_X10_157 ?_
                refine j_lc_gt (tgt := 202) rfl rfl (by decide) (by omega) (by omega) (by omega) (by omega) (fun hb189_2 => ?_) (fun hb189_2 => ?_)
                · skip
                  refine j_aload_n rfl rfl ?_
                  refine j_iconst rfl ?_
                  refine j_putI rfl f_X10_84 rfl (hS.lt (by decide)) (hS.k (by decide) (by decide)) ?_
                  refine j_lload rfl rfl ?_
                  refine j_lret rfl rfl ?_ rfl (Nat.le_refl _)
                  unfold FX10_join
                  rw [if_neg hs1_1_7, if_neg hs1_1_8, if_neg hs1_1_9, if_neg hs1_1_10, if_neg hs1_1_11, if_neg hs1_1_12, if_pos hs1_1_13, if_pos hb189_2]
                  exact ⟨rfl, rfl⟩
                · skip
                  refine j_lload rfl rfl ?_
                  refine j_ldc2 (v := -1000000000) rfl k_X10_159 ?_
                  refine j_lc_ge (tgt := 207) rfl rfl (by decide) (by omega) (by omega) (by omega) (by omega) (fun hb198_2 => ?_) (fun hb198_2 => ?_)
                  · skip
                    refine j_lload rfl rfl ?_
                    refine j_lret rfl rfl ?_ rfl (Nat.le_refl _)
                    unfold FX10_join
                    rw [if_neg hs1_1_7, if_neg hs1_1_8, if_neg hs1_1_9, if_neg hs1_1_10, if_neg hs1_1_11, if_neg hs1_1_12, if_pos hs1_1_13, if_neg hb189_2, if_pos hb198_2]
                    exact ⟨rfl, rfl⟩
                  · skip
                    refine j_aload_n rfl rfl ?_
                    refine j_iconst rfl ?_
                    refine j_putI rfl f_X10_84 rfl (hS.lt (by decide)) (hS.k (by decide) (by decide)) ?_
                    refine j_lload rfl rfl ?_
                    refine j_lret rfl rfl ?_ rfl (Nat.le_refl _)
                    unfold FX10_join
                    rw [if_neg hs1_1_7, if_neg hs1_1_8, if_neg hs1_1_9, if_neg hs1_1_10, if_neg hs1_1_11, if_neg hs1_1_12, if_pos hs1_1_13, if_neg hb189_2, if_neg hb198_2]
                    exact ⟨rfl, rfl⟩
              · skip
                by_cases hs1_1_14 : what = 14
                · skip
                  refine j_tableIn (tgt := 143) rfl (by omega) (by omega) (by omega) (by omega) (by rw [hs1_1_14]; rfl) (by decide) ?_
                  refine j_lload_n rfl rfl ?_
                  refine j_lload rfl rfl ?_
                  refine j_lmul rfl ?_
                  refine j_lstore rfl (by decide) ?_
                  refine j_goto (tgt := 184) rfl (by decide) ?_
                  refine j_lload rfl rfl ?_
                  refine j_ldc2 (v := 1000000000) rfl k_X10_157 ?_
                  refine j_lc_gt (tgt := 202) rfl rfl (by decide) (by omega) (by omega) (by omega) (by omega) (fun hb189_3 => ?_) (fun hb189_3 => ?_)
                  · skip
                    refine j_aload_n rfl rfl ?_
                    refine j_iconst rfl ?_
                    refine j_putI rfl f_X10_84 rfl (hS.lt (by decide)) (hS.k (by decide) (by decide)) ?_
                    refine j_lload rfl rfl ?_
                    refine j_lret rfl rfl ?_ rfl (Nat.le_refl _)
                    unfold FX10_join
                    rw [if_neg hs1_1_7, if_neg hs1_1_8, if_neg hs1_1_9, if_neg hs1_1_10, if_neg hs1_1_11, if_neg hs1_1_12, if_neg hs1_1_13, if_pos hs1_1_14, if_pos hb189_3]
                    exact ⟨rfl, rfl⟩
                  · skip
                    refine j_lload rfl rfl ?_
                    refine j_ldc2 (v := -1000000000) rfl k_X10_159 ?_
                    refine j_lc_ge (tgt := 207) rfl rfl (by decide) (by omega) (by omega) (by omega) (by omega) (fun hb198_3 => ?_) (fun hb198_3 => ?_)
                    · skip
                      refine j_lload rfl rfl ?_
                      refine j_lret rfl rfl ?_ rfl (Nat.le_refl _)
                      unfold FX10_join
                      rw [if_neg hs1_1_7, if_neg hs1_1_8, if_neg hs1_1_9, if_neg hs1_1_10, if_neg hs1_1_11, if_neg hs1_1_12, if_neg hs1_1_13, if_pos hs1_1_14, if_neg hb189_3, if_pos hb198_3]
                      exact ⟨rfl, rfl⟩
                    · skip
                      refine j_aload_n rfl rfl ?_
                      refine j_iconst rfl ?_
                      refine j_putI rfl f_X10_84 rfl (hS.lt (by decide)) (hS.k (by decide) (by decide)) ?_
                      refine j_lload rfl rfl ?_
                      refine j_lret rfl rfl ?_ rfl (Nat.le_refl _)
                      unfold FX10_join
                      rw [if_neg hs1_1_7, if_neg hs1_1_8, if_neg hs1_1_9, if_neg hs1_1_10, if_neg hs1_1_11, if_neg hs1_1_12, if_neg hs1_1_13, if_pos hs1_1_14, if_neg hb189_3, if_neg hb198_3]
                      exact ⟨rfl, rfl⟩
                · skip
                  refine j_tableOut (tgt := 152) rfl (by omega) (by omega) (by omega) (by decide) ?_
                  refine j_lload rfl rfl ?_
                  refine j_lconst (v := 0) rfl (by decide) ?_
                  refine j_lc_ne (tgt := 166) rfl rfl (by decide) (by omega) (by omega) (by omega) (by omega) (fun hb155_1 => ?_) (fun hb155_1 => ?_)
                  · skip
                    refine j_iload_n rfl rfl ?_
                    refine j_bipush rfl (by decide) ?_
                    refine j_icmp_ne (tgt := 179) rfl (by decide) (by omega) (by omega) (by omega) (by omega) (fun hb169_1 => ?_) (fun hb169_1 => ?_)
                    · skip
                      refine j_lload_n rfl rfl ?_
                      refine j_lload rfl rfl ?_
                      refine j_lrem rfl (by omega) (by omega) (by omega) (by omega) (by omega) ?_
                      refine j_lret rfl rfl ?_ rfl (Nat.le_refl _)
                      unfold FX10_join
                      rw [if_neg hs1_1_7, if_neg hs1_1_8, if_neg hs1_1_9, if_neg hs1_1_10, if_neg hs1_1_11, if_neg hs1_1_12, if_neg hs1_1_13, if_neg hs1_1_14, if_pos hb155_1, if_pos hb169_1]
                      exact ⟨rfl, rfl⟩
                    · skip
                      refine j_lload_n rfl rfl ?_
                      refine j_lload rfl rfl ?_
                      refine j_ldiv rfl (by omega) (by omega) (by omega) (by omega) (by omega) ?_
                      refine j_goto (tgt := 183) rfl (by decide) ?_
                      refine j_lret rfl rfl ?_ rfl (Nat.le_refl _)
                      unfold FX10_join
                      rw [if_neg hs1_1_7, if_neg hs1_1_8, if_neg hs1_1_9, if_neg hs1_1_10, if_neg hs1_1_11, if_neg hs1_1_12, if_neg hs1_1_13, if_neg hs1_1_14, if_pos hb155_1, if_neg (not_not_intro hb169_1)]
                      exact ⟨rfl, rfl⟩
                  · skip
                    refine j_aload_n rfl rfl ?_
                    refine j_iconst rfl ?_
                    refine j_putI rfl f_X10_84 rfl (hS.lt (by decide)) (hS.k (by decide) (by decide)) ?_
                    refine j_lconst (v := 0) rfl (by decide) ?_
                    refine j_lret rfl rfl ?_ rfl (Nat.le_refl _)
                    unfold FX10_join
                    rw [if_neg hs1_1_7, if_neg hs1_1_8, if_neg hs1_1_9, if_neg hs1_1_10, if_neg hs1_1_11, if_neg hs1_1_12, if_neg hs1_1_13, if_neg hs1_1_14, if_neg (not_not_intro hb155_1)]
                    exact ⟨rfl, rfl⟩


set_option maxRecDepth 20000 in
set_option maxHeartbeats 4000000 in
theorem ct_X7_isEmpty {G : QW} {m : AM} {o : Nat} (hO : ObA m o 7 fsShelf) : qM G mX7_isEmpty 0 0 0 [vR o] m (fun r m' => r = some (vI (if mi m o 2 < 0 ∧ mi m o 3 = -1 then 1 else 0)) ∧ m' = m) := by
  refine qM.intro okX7_isEmpty (Nat.le_of_ble_eq_true rfl) ?_
  refine j_aload_n rfl rfl ?_
  refine j_getI rfl f_X7_19 rfl hO.1 hO.2.1 ?_
  have u1_1 := mi_rng m o 2
  refine j_if_ge (tgt := 19) rfl (by decide) (by omega) (by omega) (fun hb4_1 => ?_) (fun hb4_1 => ?_)
  · skip
    refine j_iconst rfl ?_
    refine j_zret rfl rfl (by decide) ?_ rfl (Nat.le_refl _)
    exact ⟨by first | (rw [if_pos (by omega)]; done) | (rw [if_neg (by omega)]; done) | (exfalso; omega), rfl⟩
  · skip
    refine j_aload_n rfl rfl ?_
    refine j_getI rfl f_X7_23 rfl hO.1 hO.2.1 ?_
    have u8_1 := mi_rng m o 3
    refine j_iconst rfl ?_
    refine j_icmp_ne (tgt := 19) rfl (by decide) (by omega) (by omega) (by omega) (by omega) (fun hb12_1 => ?_) (fun hb12_1 => ?_)
    · skip
      refine j_iconst rfl ?_
      refine j_zret rfl rfl (by decide) ?_ rfl (Nat.le_refl _)
      exact ⟨by first | (rw [if_pos (by omega)]; done) | (rw [if_neg (by omega)]; done) | (exfalso; omega), rfl⟩
    · skip
      refine j_iconst rfl ?_
      refine j_goto (tgt := 20) rfl (by decide) ?_
      refine j_zret rfl rfl (by decide) ?_ rfl (Nat.le_refl _)
      exact ⟨by first | (rw [if_pos (by omega)]; done) | (rw [if_neg (by omega)]; done) | (exfalso; omega), rfl⟩

set_option maxRecDepth 20000 in
set_option maxHeartbeats 4000000 in
theorem ct_X7_holdsRow {G : QW} {m : AM} {o : Nat} (hO : ObA m o 7 fsShelf) : qM G mX7_holdsRow 0 0 0 [vR o] m (fun r m' => r = some (vI (if mi m o 3 ≠ -1 then 1 else 0)) ∧ m' = m) := by
  refine qM.intro okX7_holdsRow (Nat.le_of_ble_eq_true rfl) ?_
  refine j_aload_n rfl rfl ?_
  refine j_getI rfl f_X7_23 rfl hO.1 hO.2.1 ?_
  have u1_1 := mi_rng m o 3
  refine j_iconst rfl ?_
  refine j_icmp_eq (tgt := 12) rfl (by decide) (by omega) (by omega) (by omega) (by omega) (fun hb5_1 => ?_) (fun hb5_1 => ?_)
  · skip
    refine j_iconst rfl ?_
    refine j_zret rfl rfl (by decide) ?_ rfl (Nat.le_refl _)
    exact ⟨by first | (rw [if_pos (by omega)]; done) | (rw [if_neg (by omega)]; done) | (exfalso; omega), rfl⟩
  · skip
    refine j_iconst rfl ?_
    refine j_goto (tgt := 13) rfl (by decide) ?_
    refine j_zret rfl rfl (by decide) ?_ rfl (Nat.le_refl _)
    exact ⟨by first | (rw [if_pos (by omega)]; done) | (rw [if_neg (by omega)]; done) | (exfalso; omega), rfl⟩

set_option maxRecDepth 20000 in
set_option maxHeartbeats 4000000 in
theorem ct_X7_holdsReals {G : QW} {m : AM} {o : Nat} (hO : ObA m o 7 fsShelf) : qM G mX7_holdsReals 0 0 0 [vR o] m (fun r m' => r = some (vI (if mi m o 3 = 3 ∨ mi m o 3 = 4 then 1 else 0)) ∧ m' = m) := by
  refine qM.intro okX7_holdsReals (Nat.le_of_ble_eq_true rfl) ?_
  refine j_aload_n rfl rfl ?_
  refine j_getI rfl f_X7_23 rfl hO.1 hO.2.1 ?_
  have u1_1 := mi_rng m o 3
  refine j_iconst rfl ?_
  refine j_icmp_eq (tgt := 16) rfl (by decide) (by omega) (by omega) (by omega) (by omega) (fun hb5_1 => ?_) (fun hb5_1 => ?_)
  · skip
    refine j_iconst rfl ?_
    refine j_goto (tgt := 21) rfl (by decide) ?_
    refine j_zret rfl rfl (by decide) ?_ rfl (Nat.le_refl _)
    exact ⟨by first | (rw [if_pos (by omega)]; done) | (rw [if_neg (by omega)]; done) | (exfalso; omega), rfl⟩
  · skip
    refine j_aload_n rfl rfl ?_
    refine j_getI rfl f_X7_23 rfl hO.1 hO.2.1 ?_
    have u9_1 := mi_rng m o 3
    refine j_iconst rfl ?_
    refine j_icmp_ne (tgt := 20) rfl (by decide) (by omega) (by omega) (by omega) (by omega) (fun hb13_1 => ?_) (fun hb13_1 => ?_)
    · skip
      refine j_iconst rfl ?_
      refine j_zret rfl rfl (by decide) ?_ rfl (Nat.le_refl _)
      exact ⟨by first | (rw [if_pos (by omega)]; done) | (rw [if_neg (by omega)]; done) | (exfalso; omega), rfl⟩
    · skip
      refine j_iconst rfl ?_
      refine j_goto (tgt := 21) rfl (by decide) ?_
      refine j_zret rfl rfl (by decide) ?_ rfl (Nat.le_refl _)
      exact ⟨by first | (rw [if_pos (by omega)]; done) | (rw [if_neg (by omega)]; done) | (exfalso; omega), rfl⟩

set_option maxRecDepth 20000 in
set_option maxHeartbeats 4000000 in
theorem ct_X7_hasPlaces {G : QW} {m : AM} {o : Nat} (hO : ObA m o 7 fsShelf) {i : Int} {n : Int} (hi1 : -2147483648 ≤ i) (hi2 : i < 2147483648) (hn1 : -2147483648 ≤ n) (hn2 : n < 2147483648) : qM G mX7_hasPlaces 0 0 0 [vR o, vI i, vI n] m (fun r m' => r = some (vI (if 0 ≤ i ∧ 0 ≤ n ∧ i ≤ mi m o 4 ∧ n ≤ mi m o 4 - i then 1 else 0)) ∧ m' = m) := by
  refine qM.intro okX7_hasPlaces (Nat.le_of_ble_eq_true rfl) ?_
  refine j_iload_n rfl rfl ?_
  refine j_if_lt (tgt := 30) rfl (by decide) (by omega) (by omega) (fun hb1_1 => ?_) (fun hb1_1 => ?_)
  · skip
    refine j_iconst rfl ?_
    refine j_zret rfl rfl (by decide) ?_ rfl (Nat.le_refl _)
    exact ⟨by first | (rw [if_pos (by omega)]; done) | (rw [if_neg (by omega)]; done) | (exfalso; omega), rfl⟩
  · skip
    refine j_iload_n rfl rfl ?_
    refine j_if_lt (tgt := 30) rfl (by decide) (by omega) (by omega) (fun hb5_1 => ?_) (fun hb5_1 => ?_)
    · skip
      refine j_iconst rfl ?_
      refine j_zret rfl rfl (by decide) ?_ rfl (Nat.le_refl _)
      exact ⟨by first | (rw [if_pos (by omega)]; done) | (rw [if_neg (by omega)]; done) | (exfalso; omega), rfl⟩
    · skip
      refine j_iload_n rfl rfl ?_
      refine j_aload_n rfl rfl ?_
      refine j_getI rfl f_X7_26 rfl hO.1 hO.2.1 ?_
      have u10_1 := mi_rng m o 4
      refine j_icmp_gt (tgt := 30) rfl (by decide) (by omega) (by omega) (by omega) (by omega) (fun hb13_1 => ?_) (fun hb13_1 => ?_)
      · skip
        refine j_iconst rfl ?_
        refine j_zret rfl rfl (by decide) ?_ rfl (Nat.le_refl _)
        exact ⟨by first | (rw [if_pos (by omega)]; done) | (rw [if_neg (by omega)]; done) | (exfalso; omega), rfl⟩
      · skip
        refine j_iload_n rfl rfl ?_
        refine j_aload_n rfl rfl ?_
        refine j_getI rfl f_X7_26 rfl hO.1 hO.2.1 ?_
        have u18_1 := mi_rng m o 4
        refine j_iload_n rfl rfl ?_
        refine j_isub rfl ?_
        refine j_icmp_gt (tgt := 30) rfl (by decide) (by omega) (by omega) (by omega) (by omega) (fun hb23_1 => ?_) (fun hb23_1 => ?_)
        · skip
          refine j_iconst rfl ?_
          refine j_zret rfl rfl (by decide) ?_ rfl (Nat.le_refl _)
          exact ⟨by first | (rw [if_pos (by omega)]; done) | (rw [if_neg (by omega)]; done) | (exfalso; omega), rfl⟩
        · skip
          refine j_iconst rfl ?_
          refine j_goto (tgt := 31) rfl (by decide) ?_
          refine j_zret rfl rfl (by decide) ?_ rfl (Nat.le_refl _)
          exact ⟨by first | (rw [if_pos (by omega)]; done) | (rw [if_neg (by omega)]; done) | (exfalso; omega), rfl⟩

def FX7_holdBox (m : AM) (o : Nat) (b : Int) : AM :=
  (si (si (si m o 2 b) o 3 (-1)) o 4 0)
set_option maxRecDepth 20000 in
set_option maxHeartbeats 4000000 in
theorem ct_X7_holdBox {G : QW} {m : AM} {o : Nat} {b : Int} (hb1 : -2147483648 ≤ b) (hb2 : b < 2147483648) (hO : ObA m o 7 fsShelf) : qM G mX7_holdBox 0 0 0 [vR o, vI b] m (fun r m' => r = none ∧ m' = FX7_holdBox m o b) := by
  refine qM.intro okX7_holdBox (Nat.le_of_ble_eq_true rfl) ?_
  refine j_aload_n rfl rfl ?_
  refine j_iload_n rfl rfl ?_
  refine j_putI rfl f_X7_19 rfl hO.1 hO.2.1 ?_
  refine j_aload_n rfl rfl ?_
  refine j_iconst rfl ?_
  refine j_putI rfl f_X7_23 rfl hO.1 hO.2.1 ?_
  refine j_aload_n rfl rfl ?_
  refine j_iconst rfl ?_
  refine j_putI rfl f_X7_26 rfl hO.1 hO.2.1 ?_
  refine j_vret rfl rfl ?_ rfl (Nat.le_refl _)
  unfold FX7_holdBox
  exact ⟨rfl, rfl⟩

def FX7_setLacking (m : AM) (o : Nat) (i : Int) : AM :=
  (si m (o + 2) i.toNat (z_i2b 1))
set_option maxRecDepth 20000 in
set_option maxHeartbeats 4000000 in
theorem ct_X7_setLacking {G : QW} {m : AM} {o : Nat} {i : Int} (hi1 : -2147483648 ≤ i) (hi2 : i < 2147483648) (hO : ObA m o 7 fsShelf) (h3 : 0 ≤ i) (h4 : i ≤ 59) : qM G mX7_setLacking 0 0 0 [vR o, vI i] m (fun r m' => r = none ∧ m' = FX7_setLacking m o i) := by
  refine qM.intro okX7_setLacking (Nat.le_of_ble_eq_true rfl) ?_
  refine j_aload_n rfl rfl ?_
  refine j_getR (q := (o + 2)) rfl f_X7_15 rfl hO.1 hO.2.1 (hO.q 1 2 15 60 (by decide)).1 ?_
  refine j_iload_n rfl rfl ?_
  refine j_iconst rfl ?_
  refine j_bast (n := 60) rfl (hO.q 1 2 15 60 (by decide)).2.1 (hO.q 1 2 15 60 (by decide)).2.2.1 (hO.q 1 2 15 60 (by decide)).2.2.2 (by omega) (by omega) (by first | decide | omega) ?_
  refine j_vret rfl rfl ?_ rfl (Nat.le_refl _)
  unfold FX7_setLacking
  exact ⟨rfl, rfl⟩

def FX7_wholeAt (m : AM) (o : Nat) (i : Int) : Int :=
  if (mi m (o + 2) i.toNat) ≠ 1 then
    ml m (o + 1) i.toNat
  else
    9223372036854775807
set_option maxRecDepth 20000 in
set_option maxHeartbeats 4000000 in
theorem ct_X7_wholeAt {G : QW} {m : AM} {o : Nat} {i : Int} (hi1 : -2147483648 ≤ i) (hi2 : i < 2147483648) (hO : ObA m o 7 fsShelf) (h3 : 0 ≤ i) (h4 : i ≤ 59) : qM G mX7_wholeAt 0 0 0 [vR o, vI i] m (fun r m' => r = some (vL (FX7_wholeAt m o i)) ∧ m' = m) := by
  refine qM.intro okX7_wholeAt (Nat.le_of_ble_eq_true rfl) ?_
  refine j_aload_n rfl rfl ?_
  refine j_getR (q := (o + 2)) rfl f_X7_15 rfl hO.1 hO.2.1 (hO.q 1 2 15 60 (by decide)).1 ?_
  refine j_iload_n rfl rfl ?_
  refine j_bald (n := 60) rfl (hO.q 1 2 15 60 (by decide)).2.1 (hO.q 1 2 15 60 (by decide)).2.2.1 (hO.q 1 2 15 60 (by decide)).2.2.2 (by omega) (by omega) (by decide) ?_
  have u5_1 := mi_rng m (o + 2) i.toNat
  refine j_iconst rfl ?_
  refine j_icmp_ne (tgt := 16) rfl (by decide) (by omega) (by omega) (by omega) (by omega) (fun hb7_1 => ?_) (fun hb7_1 => ?_)
  · skip
    refine j_aload_n rfl rfl ?_
    refine j_getR (q := (o + 1)) rfl f_X7_9 rfl hO.1 hO.2.1 (hO.q 0 1 14 60 (by decide)).1 ?_
    refine j_iload_n rfl rfl ?_
    refine j_lald (n := 60) rfl (hO.q 0 1 14 60 (by decide)).2.1 (hO.q 0 1 14 60 (by decide)).2.2.1 (hO.q 0 1 14 60 (by decide)).2.2.2 (by omega) (by omega) (by decide) ?_
    have u21_1 := ml_rng m (o + 1) i.toNat
    refine j_lret rfl rfl ?_ rfl (Nat.le_refl _)
    unfold FX7_wholeAt
    rw [if_pos hb7_1]
    exact ⟨rfl, rfl⟩
  · skip
    refine j_ldc2 (v := 9223372036854775807) rfl k_X7_40 ?_
    refine j_goto (tgt := 22) rfl (by decide) ?_
    refine j_lret rfl rfl ?_ rfl (Nat.le_refl _)
    unfold FX7_wholeAt
    rw [if_neg (not_not_intro hb7_1)]
    exact ⟨rfl, rfl⟩

set_option maxRecDepth 20000 in
set_option maxHeartbeats 4000000 in
theorem ct_X5_hasTest {G : QW} {m : AM} {o : Nat} (hO : ObA m o 5 fsProg) {l : Int} (hl1 : -2147483648 ≤ l) (hl2 : l < 2147483648) (h3 : 0 ≤ l) (h4 : l ≤ 11) : qM G mX5_hasTest 0 0 0 [vR o, vI l] m (fun r m' => r = some (vI (if mi m (o + 2) l.toNat < mi m (o + 3) l.toNat then 1 else 0)) ∧ m' = m) := by
  refine qM.intro okX5_hasTest (Nat.le_of_ble_eq_true rfl) ?_
  refine j_aload_n rfl rfl ?_
  refine j_getR (q := (o + 2)) rfl f_X5_15 rfl hO.1 hO.2.1 (hO.q 1 2 13 12 (by decide)).1 ?_
  refine j_iload_n rfl rfl ?_
  refine j_iald (n := 12) rfl (hO.q 1 2 13 12 (by decide)).2.1 (hO.q 1 2 13 12 (by decide)).2.2.1 (hO.q 1 2 13 12 (by decide)).2.2.2 (by omega) (by omega) (by decide) ?_
  have u5_1 := mi_rng m (o + 2) l.toNat
  refine j_aload_n rfl rfl ?_
  refine j_getR (q := (o + 3)) rfl f_X5_18 rfl hO.1 hO.2.1 (hO.q 2 3 13 12 (by decide)).1 ?_
  refine j_iload_n rfl rfl ?_
  refine j_iald (n := 12) rfl (hO.q 2 3 13 12 (by decide)).2.1 (hO.q 2 3 13 12 (by decide)).2.2.1 (hO.q 2 3 13 12 (by decide)).2.2.2 (by omega) (by omega) (by decide) ?_
  have u11_1 := mi_rng m (o + 3) l.toNat
  refine j_icmp_ge (tgt := 19) rfl (by decide) (by omega) (by omega) (by omega) (by omega) (fun hb12_1 => ?_) (fun hb12_1 => ?_)
  · skip
    refine j_iconst rfl ?_
    refine j_zret rfl rfl (by decide) ?_ rfl (Nat.le_refl _)
    exact ⟨by first | (rw [if_pos (by omega)]; done) | (rw [if_neg (by omega)]; done) | (exfalso; omega), rfl⟩
  · skip
    refine j_iconst rfl ?_
    refine j_goto (tgt := 20) rfl (by decide) ?_
    refine j_zret rfl rfl (by decide) ?_ rfl (Nat.le_refl _)
    exact ⟨by first | (rw [if_pos (by omega)]; done) | (rw [if_neg (by omega)]; done) | (exfalso; omega), rfl⟩

def FX3_tell (m : AM) (o : Nat) (k : Int) (start : Int) (step : Int) (cap : Int) : AM :=
  (si (si (si m (o + 1) k.toNat start) (o + 2) k.toNat step) (o + 3) k.toNat cap)
set_option maxRecDepth 20000 in
set_option maxHeartbeats 4000000 in
theorem ct_X3_tell {G : QW} {m : AM} {o : Nat} {k : Int} {start : Int} {step : Int} {cap : Int} (hk1 : -2147483648 ≤ k) (hk2 : k < 2147483648) (hstart1 : -2147483648 ≤ start) (hstart2 : start < 2147483648) (hstep1 : -2147483648 ≤ step) (hstep2 : step < 2147483648) (hcap1 : -2147483648 ≤ cap) (hcap2 : cap < 2147483648) (hO : ObA m o 3 fsFlight) (h3 : 0 ≤ k) (h4 : k ≤ 2) : qM G mX3_tell 0 0 0 [vR o, vI k, vI start, vI step, vI cap] m (fun r m' => r = none ∧ m' = FX3_tell m o k start step cap) := by
  refine qM.intro okX3_tell (Nat.le_of_ble_eq_true rfl) ?_
  refine j_aload_n rfl rfl ?_
  refine j_getR (q := (o + 1)) rfl f_X3_9 rfl hO.1 hO.2.1 (hO.q 0 1 13 3 (by decide)).1 ?_
  refine j_iload_n rfl rfl ?_
  refine j_iload_n rfl rfl ?_
  refine j_iast (n := 3) rfl (hO.q 0 1 13 3 (by decide)).2.1 (hO.q 0 1 13 3 (by decide)).2.2.1 (hO.q 0 1 13 3 (by decide)).2.2.2 (by omega) (by omega) (by first | decide | omega) ?_
  refine j_aload_n rfl rfl ?_
  refine j_getR (q := (o + 2)) rfl f_X3_15 rfl hO.1 hO.2.1 (hO.q 1 2 13 3 (by decide)).1 ?_
  refine j_iload_n rfl rfl ?_
  refine j_iload_n rfl rfl ?_
  refine j_iast (n := 3) rfl (hO.q 1 2 13 3 (by decide)).2.1 (hO.q 1 2 13 3 (by decide)).2.2.1 (hO.q 1 2 13 3 (by decide)).2.2.2 (by omega) (by omega) (by first | decide | omega) ?_
  refine j_aload_n rfl rfl ?_
  refine j_getR (q := (o + 3)) rfl f_X3_18 rfl hO.1 hO.2.1 (hO.q 2 3 13 3 (by decide)).1 ?_
  refine j_iload_n rfl rfl ?_
  refine j_iload rfl rfl ?_
  refine j_iast (n := 3) rfl (hO.q 2 3 13 3 (by decide)).2.1 (hO.q 2 3 13 3 (by decide)).2.2.1 (hO.q 2 3 13 3 (by decide)).2.2.2 (by omega) (by omega) (by first | decide | omega) ?_
  refine j_vret rfl rfl ?_ rfl (Nat.le_refl _)
  unfold FX3_tell
  exact ⟨rfl, rfl⟩

def FX3_leaveRow (m : AM) (o : Nat) (k : Int) : AM :=
  (si m (o + 4) k.toNat (-1))
set_option maxRecDepth 20000 in
set_option maxHeartbeats 4000000 in
theorem ct_X3_leaveRow {G : QW} {m : AM} {o : Nat} {k : Int} (hk1 : -2147483648 ≤ k) (hk2 : k < 2147483648) (hO : ObA m o 3 fsFlight) (h3 : 0 ≤ k) (h4 : k ≤ 2) : qM G mX3_leaveRow 0 0 0 [vR o, vI k] m (fun r m' => r = none ∧ m' = FX3_leaveRow m o k) := by
  refine qM.intro okX3_leaveRow (Nat.le_of_ble_eq_true rfl) ?_
  refine j_aload_n rfl rfl ?_
  refine j_getR (q := (o + 4)) rfl f_X3_21 rfl hO.1 hO.2.1 (hO.q 3 4 13 3 (by decide)).1 ?_
  refine j_iload_n rfl rfl ?_
  refine j_iconst rfl ?_
  refine j_iast (n := 3) rfl (hO.q 3 4 13 3 (by decide)).2.1 (hO.q 3 4 13 3 (by decide)).2.2.1 (hO.q 3 4 13 3 (by decide)).2.2.2 (by omega) (by omega) (by first | decide | omega) ?_
  refine j_vret rfl rfl ?_ rfl (Nat.le_refl _)
  unfold FX3_leaveRow
  exact ⟨rfl, rfl⟩

def FX11_bits (m : AM) (box : Int) (slot : Int) (b : Int) : Int × AM :=
  if 0 ≤ box ∧ box < mi m 0 16 then
    if slot < 0 then
      ((-1), m)
    else
      if slot ≥ 8 then
        ((-1), m)
      else
        if b < 2 then
          ((-1), m)
        else
          if b ≤ 20 then
            (mi m ((bx m box) + 1) slot.toNat, (si m ((bx m box) + 1) slot.toNat b))
          else
            ((-1), m)
  else
    ((-1), m)
set_option maxRecDepth 20000 in
set_option maxHeartbeats 4000000 in
theorem ct_X11_bits {G : QW} {m : AM} (hS : St m) (hI : IM m) {box : Int} {slot : Int} {b : Int} (hbox1 : -2147483648 ≤ box) (hbox2 : box < 2147483648) (hslot1 : -2147483648 ≤ slot) (hslot2 : slot < 2147483648) (hb1 : -2147483648 ≤ b) (hb2 : b < 2147483648) (hX : HX m) : qM G mX11_bits 1 0 0 [vR 0, vI box, vI slot, vI b] m (fun r m' => r = some (vI (FX11_bits m box slot b).1) ∧ m' = (FX11_bits m box slot b).2) := by
  refine qM.intro okX11_bits (Nat.le_of_ble_eq_true rfl) ?_
  refine j_aload_n rfl rfl ?_
  refine j_iload_n rfl rfl ?_
  refine j_callV (ci := 11) rfl okX11_isBox c_X11_119 (ct_X11_isBox hS hI (by omega) (by omega)) rfl rfl (hS.lt (by decide)) (hS.k (by decide) (by decide)) (by decide) rfl (Nat.le_of_ble_eq_true rfl) (by decide) (by decide) ?_
  rintro vq mq ⟨e1, e2⟩
  rw [e1, e2]
  clear e1 e2
  simp only [Option.toList_some, Option.toList_none, List.cons_append, List.nil_append]
  have w1 := hI.s 0 16 (0) 6 (by decide)
  refine j_bif_eq (tgt := 29) rfl (by decide) (fun hb5_1 => ?_) (fun hb5_1 => ?_)
  · skip
    refine j_iconst rfl ?_
    refine j_iret rfl rfl ?_ rfl (Nat.le_refl _)
    unfold FX11_bits
    rw [if_neg hb5_1]
    exact ⟨rfl, rfl⟩
  · skip
    refine j_iload_n rfl rfl ?_
    refine j_if_lt (tgt := 29) rfl (by decide) (by omega) (by omega) (fun hb9_1 => ?_) (fun hb9_1 => ?_)
    · skip
      refine j_iconst rfl ?_
      refine j_iret rfl rfl ?_ rfl (Nat.le_refl _)
      unfold FX11_bits
      rw [if_pos hb5_1, if_pos hb9_1]
      exact ⟨rfl, rfl⟩
    · skip
      refine j_iload_n rfl rfl ?_
      refine j_bipush rfl (by decide) ?_
      refine j_icmp_ge (tgt := 29) rfl (by decide) (by omega) (by omega) (by omega) (by omega) (fun hb15_1 => ?_) (fun hb15_1 => ?_)
      · skip
        refine j_iconst rfl ?_
        refine j_iret rfl rfl ?_ rfl (Nat.le_refl _)
        unfold FX11_bits
        rw [if_pos hb5_1, if_neg hb9_1, if_pos hb15_1]
        exact ⟨rfl, rfl⟩
      · skip
        refine j_iload_n rfl rfl ?_
        refine j_iconst rfl ?_
        refine j_icmp_lt (tgt := 29) rfl (by decide) (by omega) (by omega) (by omega) (by omega) (fun hb20_1 => ?_) (fun hb20_1 => ?_)
        · skip
          refine j_iconst rfl ?_
          refine j_iret rfl rfl ?_ rfl (Nat.le_refl _)
          unfold FX11_bits
          rw [if_pos hb5_1, if_neg hb9_1, if_neg hb15_1, if_pos hb20_1]
          exact ⟨rfl, rfl⟩
        · skip
          refine j_iload_n rfl rfl ?_
          refine j_bipush rfl (by decide) ?_
          refine j_icmp_le (tgt := 31) rfl (by decide) (by omega) (by omega) (by omega) (by omega) (fun hb26_1 => ?_) (fun hb26_1 => ?_)
          · skip
            refine j_aload_n rfl rfl ?_
            refine j_getR (q := 3) rfl f_X11_18 rfl (hS.lt (by decide)) (hS.k (by decide) (by decide)) (hS.r (by decide)) ?_
            refine j_iload_n rfl rfl ?_
            have hq1 := hX box (by omega) (by omega)
            have hq1r := hq1.2.2.2.2
            refine j_aald (k := 17) (n := 6) (v := (bx m box)) rfl (hS.lt (by decide)) (hS.k (by decide) (by decide)) el17 (hS.n (by decide) (by decide)) (by omega) (by omega) (by decide) hq1.1 ?_
            refine j_getR (q := ((bx m box) + 1)) rfl f_X11_133 rfl hq1.2.1.1 hq1.2.1.2.1 (hq1.2.1.q 2 1 13 8 (by decide)).1 ?_
            refine j_iload_n rfl rfl ?_
            refine j_iald (n := 8) rfl (hq1.2.1.q 2 1 13 8 (by decide)).2.1 (hq1.2.1.q 2 1 13 8 (by decide)).2.2.1 (hq1.2.1.q 2 1 13 8 (by decide)).2.2.2 (by omega) (by omega) (by decide) ?_
            have u41_1 := mi_rng m ((bx m box) + 1) slot.toNat
            refine j_istore rfl (by decide) ?_
            refine j_aload_n rfl rfl ?_
            refine j_getR (q := 3) rfl f_X11_18 rfl (hS.lt (by decide)) (hS.k (by decide) (by decide)) (hS.r (by decide)) ?_
            refine j_iload_n rfl rfl ?_
            have hq2 := hX box (by omega) (by omega)
            have hq2r := hq2.2.2.2.2
            refine j_aald (k := 17) (n := 6) (v := (bx m box)) rfl (hS.lt (by decide)) (hS.k (by decide) (by decide)) el17 (hS.n (by decide) (by decide)) (by omega) (by omega) (by decide) hq2.1 ?_
            refine j_getR (q := ((bx m box) + 1)) rfl f_X11_133 rfl hq2.2.1.1 hq2.2.1.2.1 (hq2.2.1.q 2 1 13 8 (by decide)).1 ?_
            refine j_iload_n rfl rfl ?_
            refine j_iload_n rfl rfl ?_
            refine j_iast (n := 8) rfl (hq2.2.1.q 2 1 13 8 (by decide)).2.1 (hq2.2.1.q 2 1 13 8 (by decide)).2.2.1 (hq2.2.1.q 2 1 13 8 (by decide)).2.2.2 (by omega) (by omega) (by first | decide | omega) ?_
            refine j_iload rfl rfl ?_
            refine j_iret rfl rfl ?_ rfl (Nat.le_refl _)
            unfold FX11_bits
            rw [if_pos hb5_1, if_neg hb9_1, if_neg hb15_1, if_neg hb20_1, if_pos hb26_1]
            exact ⟨rfl, rfl⟩
          · skip
            refine j_iconst rfl ?_
            refine j_iret rfl rfl ?_ rfl (Nat.le_refl _)
            unfold FX11_bits
            rw [if_pos hb5_1, if_neg hb9_1, if_neg hb15_1, if_neg hb20_1, if_neg hb26_1]
            exact ⟨rfl, rfl⟩

def FX11_wire (m : AM) (box : Int) (input : Int) (fr0 : Int) (port : Int) : Int × AM :=
  if 0 ≤ box ∧ box < mi m 0 16 then
    if input < 0 then
      ((-2000000000), m)
    else
      if input < 4 then
        if fr0 = (-1) then
          if fr0 ≠ (-1) then
            (mi m ((bx m box) + 2) input.toNat, (si m ((bx m box) + 2) input.toNat ((10 * fr0) + port)))
          else
            (mi m ((bx m box) + 2) input.toNat, (si m ((bx m box) + 2) input.toNat (-1)))
        else
          if 0 ≤ fr0 ∧ fr0 < mi m 0 16 then
            if port < 0 then
              ((-2000000000), m)
            else
              if port < 4 then
                if fr0 ≠ (-1) then
                  (mi m ((bx m box) + 2) input.toNat, (si m ((bx m box) + 2) input.toNat ((10 * fr0) + port)))
                else
                  (mi m ((bx m box) + 2) input.toNat, (si m ((bx m box) + 2) input.toNat (-1)))
              else
                ((-2000000000), m)
          else
            ((-2000000000), m)
      else
        ((-2000000000), m)
  else
    ((-2000000000), m)
set_option maxRecDepth 20000 in
set_option maxHeartbeats 4000000 in
theorem ct_X11_wire {G : QW} {m : AM} (hS : St m) (hI : IM m) {box : Int} {input : Int} {fr0 : Int} {port : Int} (hbox1 : -2147483648 ≤ box) (hbox2 : box < 2147483648) (hinput1 : -2147483648 ≤ input) (hinput2 : input < 2147483648) (hfr01 : -2147483648 ≤ fr0) (hfr02 : fr0 < 2147483648) (hport1 : -2147483648 ≤ port) (hport2 : port < 2147483648) (hX : HX m) : qM G mX11_wire 1 0 0 [vR 0, vI box, vI input, vI fr0, vI port] m (fun r m' => r = some (vI (FX11_wire m box input fr0 port).1) ∧ m' = (FX11_wire m box input fr0 port).2) := by
  refine qM.intro okX11_wire (Nat.le_of_ble_eq_true rfl) ?_
  refine j_aload_n rfl rfl ?_
  refine j_iload_n rfl rfl ?_
  refine j_callV (ci := 11) rfl okX11_isBox c_X11_119 (ct_X11_isBox hS hI (by omega) (by omega)) rfl rfl (hS.lt (by decide)) (hS.k (by decide) (by decide)) (by decide) rfl (Nat.le_of_ble_eq_true rfl) (by decide) (by decide) ?_
  rintro vq mq ⟨e1, e2⟩
  rw [e1, e2]
  clear e1 e2
  simp only [Option.toList_some, Option.toList_none, List.cons_append, List.nil_append]
  have w1 := hI.s 0 16 (0) 6 (by decide)
  refine j_bif_eq (tgt := 17) rfl (by decide) (fun hb5_1 => ?_) (fun hb5_1 => ?_)
  · skip
    refine j_ldc (v := -2000000000) rfl k_X11_136 ?_
    refine j_iret rfl rfl ?_ rfl (Nat.le_refl _)
    unfold FX11_wire
    rw [if_neg hb5_1]
    exact ⟨rfl, rfl⟩
  · skip
    refine j_iload_n rfl rfl ?_
    refine j_if_lt (tgt := 17) rfl (by decide) (by omega) (by omega) (fun hb9_1 => ?_) (fun hb9_1 => ?_)
    · skip
      refine j_ldc (v := -2000000000) rfl k_X11_136 ?_
      refine j_iret rfl rfl ?_ rfl (Nat.le_refl _)
      unfold FX11_wire
      rw [if_pos hb5_1, if_pos hb9_1]
      exact ⟨rfl, rfl⟩
    · skip
      refine j_iload_n rfl rfl ?_
      refine j_iconst rfl ?_
      refine j_icmp_lt (tgt := 20) rfl (by decide) (by omega) (by omega) (by omega) (by omega) (fun hb14_1 => ?_) (fun hb14_1 => ?_)
      · skip
        refine j_iload_n rfl rfl ?_
        refine j_iconst rfl ?_
        refine j_icmp_eq (tgt := 47) rfl (by decide) (by omega) (by omega) (by omega) (by omega) (fun hb22_1 => ?_) (fun hb22_1 => ?_)
        · skip
          refine j_aload_n rfl rfl ?_
          refine j_getR (q := 3) rfl f_X11_18 rfl (hS.lt (by decide)) (hS.k (by decide) (by decide)) (hS.r (by decide)) ?_
          refine j_iload_n rfl rfl ?_
          have hq1 := hX box (by omega) (by omega)
          have hq1r := hq1.2.2.2.2
          refine j_aald (k := 17) (n := 6) (v := (bx m box)) rfl (hS.lt (by decide)) (hS.k (by decide) (by decide)) el17 (hS.n (by decide) (by decide)) (by omega) (by omega) (by decide) hq1.1 ?_
          refine j_getR (q := ((bx m box) + 2)) rfl f_X11_137 rfl hq1.2.1.1 hq1.2.1.2.1 (hq1.2.1.q 3 2 13 4 (by decide)).1 ?_
          refine j_iload_n rfl rfl ?_
          refine j_iald (n := 4) rfl (hq1.2.1.q 3 2 13 4 (by decide)).2.1 (hq1.2.1.q 3 2 13 4 (by decide)).2.2.1 (hq1.2.1.q 3 2 13 4 (by decide)).2.2.2 (by omega) (by omega) (by decide) ?_
          have u57_1 := mi_rng m ((bx m box) + 2) input.toNat
          refine j_istore rfl (by decide) ?_
          refine j_aload_n rfl rfl ?_
          refine j_getR (q := 3) rfl f_X11_18 rfl (hS.lt (by decide)) (hS.k (by decide) (by decide)) (hS.r (by decide)) ?_
          refine j_iload_n rfl rfl ?_
          have hq2 := hX box (by omega) (by omega)
          have hq2r := hq2.2.2.2.2
          refine j_aald (k := 17) (n := 6) (v := (bx m box)) rfl (hS.lt (by decide)) (hS.k (by decide) (by decide)) el17 (hS.n (by decide) (by decide)) (by omega) (by omega) (by decide) hq2.1 ?_
          refine j_getR (q := ((bx m box) + 2)) rfl f_X11_137 rfl hq2.2.1.1 hq2.2.1.2.1 (hq2.2.1.q 3 2 13 4 (by decide)).1 ?_
          refine j_iload_n rfl rfl ?_
          refine j_iload_n rfl rfl ?_
          refine j_iconst rfl ?_
          refine j_icmp_ne (tgt := 79) rfl (by decide) (by omega) (by omega) (by omega) (by omega) (fun hb72_1 => ?_) (fun hb72_1 => ?_)
          · skip
            refine j_bipush rfl (by decide) ?_
            refine j_iload_n rfl rfl ?_
            refine j_imul rfl ?_
            refine j_iload rfl rfl ?_
            refine j_iadd rfl ?_
            refine j_iast (n := 4) rfl (hq2.2.1.q 3 2 13 4 (by decide)).2.1 (hq2.2.1.q 3 2 13 4 (by decide)).2.2.1 (hq2.2.1.q 3 2 13 4 (by decide)).2.2.2 (by omega) (by omega) (by first | decide | omega) ?_
            refine j_iload rfl rfl ?_
            refine j_iret rfl rfl ?_ rfl (Nat.le_refl _)
            unfold FX11_wire
            rw [if_pos hb5_1, if_neg hb9_1, if_pos hb14_1, if_pos hb22_1, if_pos hb72_1]
            exact ⟨rfl, rfl⟩
          · skip
            refine j_iconst rfl ?_
            refine j_goto (tgt := 86) rfl (by decide) ?_
            refine j_iast (n := 4) rfl (hq2.2.1.q 3 2 13 4 (by decide)).2.1 (hq2.2.1.q 3 2 13 4 (by decide)).2.2.1 (hq2.2.1.q 3 2 13 4 (by decide)).2.2.2 (by omega) (by omega) (by first | decide | omega) ?_
            refine j_iload rfl rfl ?_
            refine j_iret rfl rfl ?_ rfl (Nat.le_refl _)
            unfold FX11_wire
            rw [if_pos hb5_1, if_neg hb9_1, if_pos hb14_1, if_pos hb22_1, if_neg (not_not_intro hb72_1)]
            exact ⟨rfl, rfl⟩
        · skip
          refine j_aload_n rfl rfl ?_
          refine j_iload_n rfl rfl ?_
          refine j_callV (ci := 11) rfl okX11_isBox c_X11_119 (ct_X11_isBox hS hI (by omega) (by omega)) rfl rfl (hS.lt (by decide)) (hS.k (by decide) (by decide)) (by decide) rfl (Nat.le_of_ble_eq_true rfl) (by decide) (by decide) ?_
          rintro vq mq ⟨e1, e2⟩
          rw [e1, e2]
          clear e1 e2
          simp only [Option.toList_some, Option.toList_none, List.cons_append, List.nil_append]
          have w2 := hI.s 0 16 (0) 6 (by decide)
          refine j_bif_eq (tgt := 44) rfl (by decide) (fun hb30_1 => ?_) (fun hb30_1 => ?_)
          · skip
            refine j_ldc (v := -2000000000) rfl k_X11_136 ?_
            refine j_iret rfl rfl ?_ rfl (Nat.le_refl _)
            unfold FX11_wire
            rw [if_pos hb5_1, if_neg hb9_1, if_pos hb14_1, if_neg hb22_1, if_neg hb30_1]
            exact ⟨rfl, rfl⟩
          · skip
            refine j_iload rfl rfl ?_
            refine j_if_lt (tgt := 44) rfl (by decide) (by omega) (by omega) (fun hb35_1 => ?_) (fun hb35_1 => ?_)
            · skip
              refine j_ldc (v := -2000000000) rfl k_X11_136 ?_
              refine j_iret rfl rfl ?_ rfl (Nat.le_refl _)
              unfold FX11_wire
              rw [if_pos hb5_1, if_neg hb9_1, if_pos hb14_1, if_neg hb22_1, if_pos hb30_1, if_pos hb35_1]
              exact ⟨rfl, rfl⟩
            · skip
              refine j_iload rfl rfl ?_
              refine j_iconst rfl ?_
              refine j_icmp_lt (tgt := 47) rfl (by decide) (by omega) (by omega) (by omega) (by omega) (fun hb41_1 => ?_) (fun hb41_1 => ?_)
              · skip
                refine j_aload_n rfl rfl ?_
                refine j_getR (q := 3) rfl f_X11_18 rfl (hS.lt (by decide)) (hS.k (by decide) (by decide)) (hS.r (by decide)) ?_
                refine j_iload_n rfl rfl ?_
                have hq3 := hX box (by omega) (by omega)
                have hq3r := hq3.2.2.2.2
                refine j_aald (k := 17) (n := 6) (v := (bx m box)) rfl (hS.lt (by decide)) (hS.k (by decide) (by decide)) el17 (hS.n (by decide) (by decide)) (by omega) (by omega) (by decide) hq3.1 ?_
                refine j_getR (q := ((bx m box) + 2)) rfl f_X11_137 rfl hq3.2.1.1 hq3.2.1.2.1 (hq3.2.1.q 3 2 13 4 (by decide)).1 ?_
                refine j_iload_n rfl rfl ?_
                refine j_iald (n := 4) rfl (hq3.2.1.q 3 2 13 4 (by decide)).2.1 (hq3.2.1.q 3 2 13 4 (by decide)).2.2.1 (hq3.2.1.q 3 2 13 4 (by decide)).2.2.2 (by omega) (by omega) (by decide) ?_
                have u57_2 := mi_rng m ((bx m box) + 2) input.toNat
                refine j_istore rfl (by decide) ?_
                refine j_aload_n rfl rfl ?_
                refine j_getR (q := 3) rfl f_X11_18 rfl (hS.lt (by decide)) (hS.k (by decide) (by decide)) (hS.r (by decide)) ?_
                refine j_iload_n rfl rfl ?_
                have hq4 := hX box (by omega) (by omega)
                have hq4r := hq4.2.2.2.2
                refine j_aald (k := 17) (n := 6) (v := (bx m box)) rfl (hS.lt (by decide)) (hS.k (by decide) (by decide)) el17 (hS.n (by decide) (by decide)) (by omega) (by omega) (by decide) hq4.1 ?_
                refine j_getR (q := ((bx m box) + 2)) rfl f_X11_137 rfl hq4.2.1.1 hq4.2.1.2.1 (hq4.2.1.q 3 2 13 4 (by decide)).1 ?_
                refine j_iload_n rfl rfl ?_
                refine j_iload_n rfl rfl ?_
                refine j_iconst rfl ?_
                refine j_icmp_ne (tgt := 79) rfl (by decide) (by omega) (by omega) (by omega) (by omega) (fun hb72_2 => ?_) (fun hb72_2 => ?_)
                · skip
                  refine j_bipush rfl (by decide) ?_
                  refine j_iload_n rfl rfl ?_
                  refine j_imul rfl ?_
                  refine j_iload rfl rfl ?_
                  refine j_iadd rfl ?_
                  refine j_iast (n := 4) rfl (hq4.2.1.q 3 2 13 4 (by decide)).2.1 (hq4.2.1.q 3 2 13 4 (by decide)).2.2.1 (hq4.2.1.q 3 2 13 4 (by decide)).2.2.2 (by omega) (by omega) (by first | decide | omega) ?_
                  refine j_iload rfl rfl ?_
                  refine j_iret rfl rfl ?_ rfl (Nat.le_refl _)
                  unfold FX11_wire
                  rw [if_pos hb5_1, if_neg hb9_1, if_pos hb14_1, if_neg hb22_1, if_pos hb30_1, if_neg hb35_1, if_pos hb41_1, if_pos hb72_2]
                  exact ⟨rfl, rfl⟩
                · skip
                  refine j_iconst rfl ?_
                  refine j_goto (tgt := 86) rfl (by decide) ?_
                  refine j_iast (n := 4) rfl (hq4.2.1.q 3 2 13 4 (by decide)).2.1 (hq4.2.1.q 3 2 13 4 (by decide)).2.2.1 (hq4.2.1.q 3 2 13 4 (by decide)).2.2.2 (by omega) (by omega) (by first | decide | omega) ?_
                  refine j_iload rfl rfl ?_
                  refine j_iret rfl rfl ?_ rfl (Nat.le_refl _)
                  unfold FX11_wire
                  rw [if_pos hb5_1, if_neg hb9_1, if_pos hb14_1, if_neg hb22_1, if_pos hb30_1, if_neg hb35_1, if_pos hb41_1, if_neg (not_not_intro hb72_2)]
                  exact ⟨rfl, rfl⟩
              · skip
                refine j_ldc (v := -2000000000) rfl k_X11_136 ?_
                refine j_iret rfl rfl ?_ rfl (Nat.le_refl _)
                unfold FX11_wire
                rw [if_pos hb5_1, if_neg hb9_1, if_pos hb14_1, if_neg hb22_1, if_pos hb30_1, if_neg hb35_1, if_neg hb41_1]
                exact ⟨rfl, rfl⟩
      · skip
        refine j_ldc (v := -2000000000) rfl k_X11_136 ?_
        refine j_iret rfl rfl ?_ rfl (Nat.le_refl _)
        unfold FX11_wire
        rw [if_pos hb5_1, if_neg hb9_1, if_neg hb14_1]
        exact ⟨rfl, rfl⟩

def FX11_count (m : AM) (what : Int) : Int :=
  if what = 0 then
    mi m 0 16
  else
    if what = 1 then
      mi m 0 17
    else
      if what = 2 then
        mi m 6 5
      else
        if what = 3 then
          mi m 1 1
        else
          if what = 4 then
            mi m 22 1
          else
            (-1)
set_option maxRecDepth 20000 in
set_option maxHeartbeats 4000000 in
theorem ct_X11_count {G : QW} {m : AM} (hS : St m) (hI : IM m) {what : Int} (hwhat1 : -2147483648 ≤ what) (hwhat2 : what < 2147483648) : qM G mX11_count 0 0 0 [vR 0, vI what] m (fun r m' => r = some (vI (FX11_count m what)) ∧ m' = m) := by
  refine qM.intro okX11_count (Nat.le_of_ble_eq_true rfl) ?_
  refine j_iload_n rfl rfl ?_
  by_cases hs1_1_0 : what = 0
  · skip
    refine j_tableIn (tgt := 36) rfl (by omega) (by omega) (by omega) (by omega) (by rw [hs1_1_0]; rfl) (by decide) ?_
    refine j_aload_n rfl rfl ?_
    refine j_getI rfl f_X11_113 rfl (hS.lt (by decide)) (hS.k (by decide) (by decide)) ?_
    have u37_1 := hI.s 0 16 (0) 6 (by decide)
    refine j_iret rfl rfl ?_ rfl (Nat.le_refl _)
    unfold FX11_count
    rw [if_pos hs1_1_0]
    exact ⟨rfl, rfl⟩
  · skip
    by_cases hs1_1_1 : what = 1
    · skip
      refine j_tableIn (tgt := 41) rfl (by omega) (by omega) (by omega) (by omega) (by rw [hs1_1_1]; rfl) (by decide) ?_
      refine j_aload_n rfl rfl ?_
      refine j_getI rfl f_X11_156 rfl (hS.lt (by decide)) (hS.k (by decide) (by decide)) ?_
      have u42_1 := hI.s 0 17 (0) 8 (by decide)
      refine j_iret rfl rfl ?_ rfl (Nat.le_refl _)
      unfold FX11_count
      rw [if_neg hs1_1_0, if_pos hs1_1_1]
      exact ⟨rfl, rfl⟩
    · skip
      by_cases hs1_1_2 : what = 2
      · skip
        refine j_tableIn (tgt := 46) rfl (by omega) (by omega) (by omega) (by omega) (by rw [hs1_1_2]; rfl) (by decide) ?_
        refine j_aload_n rfl rfl ?_
        refine j_getR (q := 6) rfl f_X11_37 rfl (hS.lt (by decide)) (hS.k (by decide) (by decide)) (hS.r (by decide)) ?_
        refine j_getI rfl f_X11_324 rfl (hS.lt (by decide)) (hS.k (by decide) (by decide)) ?_
        have u50_1 := hI.s 6 5 (0) 20 (by decide)
        refine j_iret rfl rfl ?_ rfl (Nat.le_refl _)
        unfold FX11_count
        rw [if_neg hs1_1_0, if_neg hs1_1_1, if_pos hs1_1_2]
        exact ⟨rfl, rfl⟩
      · skip
        by_cases hs1_1_3 : what = 3
        · skip
          refine j_tableIn (tgt := 54) rfl (by omega) (by omega) (by omega) (by omega) (by rw [hs1_1_3]; rfl) (by decide) ?_
          refine j_aload_n rfl rfl ?_
          refine j_getR (q := 1) rfl f_X11_12 rfl (hS.lt (by decide)) (hS.k (by decide) (by decide)) (hS.r (by decide)) ?_
          refine j_getI rfl f_X11_106 rfl (hS.lt (by decide)) (hS.k (by decide) (by decide)) ?_
          have u58_1 := hI.s 1 1 (0) 160 (by decide)
          refine j_iret rfl rfl ?_ rfl (Nat.le_refl _)
          unfold FX11_count
          rw [if_neg hs1_1_0, if_neg hs1_1_1, if_neg hs1_1_2, if_pos hs1_1_3]
          exact ⟨rfl, rfl⟩
        · skip
          by_cases hs1_1_4 : what = 4
          · skip
            refine j_tableIn (tgt := 62) rfl (by omega) (by omega) (by omega) (by omega) (by rw [hs1_1_4]; rfl) (by decide) ?_
            refine j_aload_n rfl rfl ?_
            refine j_getR (q := 22) rfl f_X11_58 rfl (hS.lt (by decide)) (hS.k (by decide) (by decide)) (hS.r (by decide)) ?_
            refine j_getI rfl f_X11_356 rfl (hS.lt (by decide)) (hS.k (by decide) (by decide)) ?_
            have u66_1 := hI.s 22 1 (0) 100 (by decide)
            refine j_iret rfl rfl ?_ rfl (Nat.le_refl _)
            unfold FX11_count
            rw [if_neg hs1_1_0, if_neg hs1_1_1, if_neg hs1_1_2, if_neg hs1_1_3, if_pos hs1_1_4]
            exact ⟨rfl, rfl⟩
          · skip
            refine j_tableOut (tgt := 70) rfl (by omega) (by omega) (by omega) (by decide) ?_
            refine j_iconst rfl ?_
            refine j_iret rfl rfl ?_ rfl (Nat.le_refl _)
            unfold FX11_count
            rw [if_neg hs1_1_0, if_neg hs1_1_1, if_neg hs1_1_2, if_neg hs1_1_3, if_neg hs1_1_4]
            exact ⟨rfl, rfl⟩

def FX11_trace (m : AM) (i : Int) : Int :=
  if i < 0 then
    (-1)
  else
    if i ≥ (mi m 22 1) then
      (-1)
    else
      if i ≥ 24 then
        (-1)
      else
        mi m 23 i.toNat
set_option maxRecDepth 20000 in
set_option maxHeartbeats 4000000 in
theorem ct_X11_trace {G : QW} {m : AM} (hS : St m) (hI : IM m) {i : Int} (hi1 : -2147483648 ≤ i) (hi2 : i < 2147483648) : qM G mX11_trace 0 0 0 [vR 0, vI i] m (fun r m' => r = some (vI (FX11_trace m i)) ∧ m' = m) := by
  refine qM.intro okX11_trace (Nat.le_of_ble_eq_true rfl) ?_
  refine j_iload_n rfl rfl ?_
  refine j_if_lt (tgt := 33) rfl (by decide) (by omega) (by omega) (fun hb1_1 => ?_) (fun hb1_1 => ?_)
  · skip
    refine j_iconst rfl ?_
    refine j_iret rfl rfl ?_ rfl (Nat.le_refl _)
    unfold FX11_trace
    rw [if_pos hb1_1]
    exact ⟨rfl, rfl⟩
  · skip
    refine j_iload_n rfl rfl ?_
    refine j_aload_n rfl rfl ?_
    refine j_getR (q := 22) rfl f_X11_58 rfl (hS.lt (by decide)) (hS.k (by decide) (by decide)) (hS.r (by decide)) ?_
    refine j_getI rfl f_X11_356 rfl (hS.lt (by decide)) (hS.k (by decide) (by decide)) ?_
    have u9_1 := hI.s 22 1 (0) 100 (by decide)
    refine j_icmp_ge (tgt := 33) rfl (by decide) (by omega) (by omega) (by omega) (by omega) (fun hb12_1 => ?_) (fun hb12_1 => ?_)
    · skip
      refine j_iconst rfl ?_
      refine j_iret rfl rfl ?_ rfl (Nat.le_refl _)
      unfold FX11_trace
      rw [if_neg hb1_1, if_pos hb12_1]
      exact ⟨rfl, rfl⟩
    · skip
      refine j_iload_n rfl rfl ?_
      refine j_bipush rfl (by decide) ?_
      refine j_icmp_ge (tgt := 33) rfl (by decide) (by omega) (by omega) (by omega) (by omega) (fun hb18_1 => ?_) (fun hb18_1 => ?_)
      · skip
        refine j_iconst rfl ?_
        refine j_iret rfl rfl ?_ rfl (Nat.le_refl _)
        unfold FX11_trace
        rw [if_neg hb1_1, if_neg hb12_1, if_pos hb18_1]
        exact ⟨rfl, rfl⟩
      · skip
        refine j_aload_n rfl rfl ?_
        refine j_getR (q := 22) rfl f_X11_58 rfl (hS.lt (by decide)) (hS.k (by decide) (by decide)) (hS.r (by decide)) ?_
        refine j_getR (q := 23) rfl f_X11_366 rfl (hS.lt (by decide)) (hS.k (by decide) (by decide)) (hS.r (by decide)) ?_
        refine j_iload_n rfl rfl ?_
        refine j_iald (n := 24) rfl (hS.lt (by decide)) (hS.k (by decide) (by decide)) (hS.n (by decide) (by decide)) (by omega) (by omega) (by decide) ?_
        have u29_1 := hI.a 23 (0) 100 (by decide) i.toNat
        refine j_goto (tgt := 34) rfl (by decide) ?_
        refine j_iret rfl rfl ?_ rfl (Nat.le_refl _)
        unfold FX11_trace
        rw [if_neg hb1_1, if_neg hb12_1, if_neg hb18_1]
        exact ⟨rfl, rfl⟩

def FX11_firstFault (m : AM) (what : Int) : Int :=
  if (mi m 0 18) < 0 then
    (-1)
  else
    if what < 0 then
      (-1)
    else
      if what ≤ 3 then
        if (mi m 24 7) ≠ 0 then
          mi m 31 what.toNat
        else
          (-2)
      else
        (-1)
set_option maxRecDepth 20000 in
set_option maxHeartbeats 4000000 in
theorem ct_X11_firstFault {G : QW} {m : AM} (hS : St m) (hI : IM m) {what : Int} (hwhat1 : -2147483648 ≤ what) (hwhat2 : what < 2147483648) : qM G mX11_firstFault 0 0 0 [vR 0, vI what] m (fun r m' => r = some (vI (FX11_firstFault m what)) ∧ m' = m) := by
  refine qM.intro okX11_firstFault (Nat.le_of_ble_eq_true rfl) ?_
  refine j_aload_n rfl rfl ?_
  refine j_getI rfl f_X11_101 rfl (hS.lt (by decide)) (hS.k (by decide) (by decide)) ?_
  have u1_1 := hI.s 0 18 (-1) 6 (by decide)
  refine j_if_lt (tgt := 16) rfl (by decide) (by omega) (by omega) (fun hb4_1 => ?_) (fun hb4_1 => ?_)
  · skip
    refine j_iconst rfl ?_
    refine j_iret rfl rfl ?_ rfl (Nat.le_refl _)
    unfold FX11_firstFault
    rw [if_pos hb4_1]
    exact ⟨rfl, rfl⟩
  · skip
    refine j_iload_n rfl rfl ?_
    refine j_if_lt (tgt := 16) rfl (by decide) (by omega) (by omega) (fun hb8_1 => ?_) (fun hb8_1 => ?_)
    · skip
      refine j_iconst rfl ?_
      refine j_iret rfl rfl ?_ rfl (Nat.le_refl _)
      unfold FX11_firstFault
      rw [if_neg hb4_1, if_pos hb8_1]
      exact ⟨rfl, rfl⟩
    · skip
      refine j_iload_n rfl rfl ?_
      refine j_iconst rfl ?_
      refine j_icmp_le (tgt := 18) rfl (by decide) (by omega) (by omega) (by omega) (by omega) (fun hb13_1 => ?_) (fun hb13_1 => ?_)
      · skip
        refine j_aload_n rfl rfl ?_
        refine j_getR (q := 24) rfl f_X11_65 rfl (hS.lt (by decide)) (hS.k (by decide) (by decide)) (hS.r (by decide)) ?_
        refine j_getI rfl f_X11_201 rfl (hS.lt (by decide)) (hS.k (by decide) (by decide)) ?_
        have u22_1 := mi_rng m 24 7
        refine j_if_ne (tgt := 33) rfl (by decide) (by omega) (by omega) (fun hb25_1 => ?_) (fun hb25_1 => ?_)
        · skip
          refine j_aload_n rfl rfl ?_
          refine j_getR (q := 24) rfl f_X11_65 rfl (hS.lt (by decide)) (hS.k (by decide) (by decide)) (hS.r (by decide)) ?_
          refine j_getR (q := 31) rfl f_X11_225 rfl (hS.lt (by decide)) (hS.k (by decide) (by decide)) (hS.r (by decide)) ?_
          refine j_iload_n rfl rfl ?_
          refine j_iald (n := 4) rfl (hS.lt (by decide)) (hS.k (by decide) (by decide)) (hS.n (by decide) (by decide)) (by omega) (by omega) (by decide) ?_
          have u41_1 := mi_rng m 31 what.toNat
          refine j_iret rfl rfl ?_ rfl (Nat.le_refl _)
          unfold FX11_firstFault
          rw [if_neg hb4_1, if_neg hb8_1, if_pos hb13_1, if_pos hb25_1]
          exact ⟨rfl, rfl⟩
        · skip
          refine j_bipush rfl (by decide) ?_
          refine j_goto (tgt := 42) rfl (by decide) ?_
          refine j_iret rfl rfl ?_ rfl (Nat.le_refl _)
          unfold FX11_firstFault
          rw [if_neg hb4_1, if_neg hb8_1, if_pos hb13_1, if_neg (not_not_intro hb25_1)]
          exact ⟨rfl, rfl⟩
      · skip
        refine j_iconst rfl ?_
        refine j_iret rfl rfl ?_ rfl (Nat.le_refl _)
        unfold FX11_firstFault
        rw [if_neg hb4_1, if_neg hb8_1, if_neg hb13_1]
        exact ⟨rfl, rfl⟩

def FX11_began (m : AM) (k : Int) : Int :=
  if (mi m 0 19) = 0 then
    (-2000000000)
  else
    if k < 0 then
      (-2000000000)
    else
      if k ≥ 3 then
        (-2000000000)
      else
        mi m 57 k.toNat
set_option maxRecDepth 20000 in
set_option maxHeartbeats 4000000 in
theorem ct_X11_began {G : QW} {m : AM} (hS : St m) (hI : IM m) {k : Int} (hk1 : -2147483648 ≤ k) (hk2 : k < 2147483648) : qM G mX11_began 0 0 0 [vR 0, vI k] m (fun r m' => r = some (vI (FX11_began m k)) ∧ m' = m) := by
  refine qM.intro okX11_began (Nat.le_of_ble_eq_true rfl) ?_
  refine j_aload_n rfl rfl ?_
  refine j_getI rfl f_X11_266 rfl (hS.lt (by decide)) (hS.k (by decide) (by decide)) ?_
  have u1_1 := hI.s 0 19 (0) 1 (by decide)
  refine j_if_eq (tgt := 25) rfl (by decide) (by omega) (by omega) (fun hb4_1 => ?_) (fun hb4_1 => ?_)
  · skip
    refine j_ldc (v := -2000000000) rfl k_X11_136 ?_
    refine j_iret rfl rfl ?_ rfl (Nat.le_refl _)
    unfold FX11_began
    rw [if_pos hb4_1]
    exact ⟨rfl, rfl⟩
  · skip
    refine j_iload_n rfl rfl ?_
    refine j_if_lt (tgt := 25) rfl (by decide) (by omega) (by omega) (fun hb8_1 => ?_) (fun hb8_1 => ?_)
    · skip
      refine j_ldc (v := -2000000000) rfl k_X11_136 ?_
      refine j_iret rfl rfl ?_ rfl (Nat.le_refl _)
      unfold FX11_began
      rw [if_neg hb4_1, if_pos hb8_1]
      exact ⟨rfl, rfl⟩
    · skip
      refine j_iload_n rfl rfl ?_
      refine j_iconst rfl ?_
      refine j_icmp_ge (tgt := 25) rfl (by decide) (by omega) (by omega) (by omega) (by omega) (fun hb13_1 => ?_) (fun hb13_1 => ?_)
      · skip
        refine j_ldc (v := -2000000000) rfl k_X11_136 ?_
        refine j_iret rfl rfl ?_ rfl (Nat.le_refl _)
        unfold FX11_began
        rw [if_neg hb4_1, if_neg hb8_1, if_pos hb13_1]
        exact ⟨rfl, rfl⟩
      · skip
        refine j_aload_n rfl rfl ?_
        refine j_getR (q := 57) rfl f_X11_80 rfl (hS.lt (by decide)) (hS.k (by decide) (by decide)) (hS.r (by decide)) ?_
        refine j_iload_n rfl rfl ?_
        refine j_iald (n := 3) rfl (hS.lt (by decide)) (hS.k (by decide) (by decide)) (hS.n (by decide) (by decide)) (by omega) (by omega) (by decide) ?_
        have u21_1 := hI.a 57 (-99999) 99999 (by decide) k.toNat
        refine j_goto (tgt := 27) rfl (by decide) ?_
        refine j_iret rfl rfl ?_ rfl (Nat.le_refl _)
        unfold FX11_began
        rw [if_neg hb4_1, if_neg hb8_1, if_neg hb13_1]
        exact ⟨rfl, rfl⟩

def FX11_ofRun (m : AM) (box : Int) (what : Int) : Int :=
  if box < 0 then
    (-2000000000)
  else
    if box < (mi m 0 18) then
      if what < 0 then
        if what < 10 then
          if what < 20 then
            if what = 30 then
              if (mi m 27 box.toNat) ≠ 0 then
                1
              else
                0
            else
              if what = 31 then
                mi m 28 box.toNat
              else
                if what = 32 then
                  mi m 29 box.toNat
                else
                  (-2000000000)
          else
            if what ≥ 24 then
              if what = 30 then
                if (mi m 27 box.toNat) ≠ 0 then
                  1
                else
                  0
              else
                if what = 31 then
                  mi m 28 box.toNat
                else
                  if what = 32 then
                    mi m 29 box.toNat
                  else
                    (-2000000000)
            else
              mi m 27 box.toNat
        else
          if what ≥ 14 then
            if what < 20 then
              if what = 30 then
                if (mi m 27 box.toNat) ≠ 0 then
                  1
                else
                  0
              else
                if what = 31 then
                  mi m 28 box.toNat
                else
                  if what = 32 then
                    mi m 29 box.toNat
                  else
                    (-2000000000)
            else
              if what ≥ 24 then
                if what = 30 then
                  if (mi m 27 box.toNat) ≠ 0 then
                    1
                  else
                    0
                else
                  if what = 31 then
                    mi m 28 box.toNat
                  else
                    if what = 32 then
                      mi m 29 box.toNat
                    else
                      (-2000000000)
              else
                mi m 27 box.toNat
          else
            if (mi m 27 box.toNat) ≠ 0 then
              (-2000000000)
            else
              mi m 26 (((box * 4) + what) - 10).toNat
      else
        if what ≥ 8 then
          if what < 10 then
            if what < 20 then
              if what = 30 then
                if (mi m 27 box.toNat) ≠ 0 then
                  1
                else
                  0
              else
                if what = 31 then
                  mi m 28 box.toNat
                else
                  if what = 32 then
                    mi m 29 box.toNat
                  else
                    (-2000000000)
            else
              if what ≥ 24 then
                if what = 30 then
                  if (mi m 27 box.toNat) ≠ 0 then
                    1
                  else
                    0
                else
                  if what = 31 then
                    mi m 28 box.toNat
                  else
                    if what = 32 then
                      mi m 29 box.toNat
                    else
                      (-2000000000)
              else
                mi m 27 box.toNat
          else
            if what ≥ 14 then
              if what < 20 then
                if what = 30 then
                  if (mi m 27 box.toNat) ≠ 0 then
                    1
                  else
                    0
                else
                  if what = 31 then
                    mi m 28 box.toNat
                  else
                    if what = 32 then
                      mi m 29 box.toNat
                    else
                      (-2000000000)
              else
                if what ≥ 24 then
                  if what = 30 then
                    if (mi m 27 box.toNat) ≠ 0 then
                      1
                    else
                      0
                  else
                    if what = 31 then
                      mi m 28 box.toNat
                    else
                      if what = 32 then
                        mi m 29 box.toNat
                      else
                        (-2000000000)
                else
                  mi m 27 box.toNat
            else
              if (mi m 27 box.toNat) ≠ 0 then
                (-2000000000)
              else
                mi m 26 (((box * 4) + what) - 10).toNat
        else
          mi m 25 ((box * 8) + what).toNat
    else
      (-2000000000)
set_option maxRecDepth 20000 in
set_option maxHeartbeats 4000000 in
theorem ct_X11_ofRun {G : QW} {m : AM} (hS : St m) (hI : IM m) {box : Int} {what : Int} (hbox1 : -2147483648 ≤ box) (hbox2 : box < 2147483648) (hwhat1 : -2147483648 ≤ what) (hwhat2 : what < 2147483648) : qM G mX11_ofRun 0 0 0 [vR 0, vI box, vI what] m (fun r m' => r = some (vI (FX11_ofRun m box what)) ∧ m' = m) := by
  refine qM.intro okX11_ofRun (Nat.le_of_ble_eq_true rfl) ?_
  refine j_iload_n rfl rfl ?_
  refine j_if_lt (tgt := 12) rfl (by decide) (by omega) (by omega) (fun hb1_1 => ?_) (fun hb1_1 => ?_)
  · skip
    refine j_ldc (v := -2000000000) rfl k_X11_136 ?_
    refine j_iret rfl rfl ?_ rfl (Nat.le_refl _)
    unfold FX11_ofRun
    rw [if_pos hb1_1]
    exact ⟨rfl, rfl⟩
  · skip
    refine j_iload_n rfl rfl ?_
    refine j_aload_n rfl rfl ?_
    refine j_getI rfl f_X11_101 rfl (hS.lt (by decide)) (hS.k (by decide) (by decide)) ?_
    have u6_1 := hI.s 0 18 (-1) 6 (by decide)
    refine j_icmp_lt (tgt := 15) rfl (by decide) (by omega) (by omega) (by omega) (by omega) (fun hb9_1 => ?_) (fun hb9_1 => ?_)
    · skip
      refine j_aload_n rfl rfl ?_
      refine j_getR (q := 24) rfl f_X11_65 rfl (hS.lt (by decide)) (hS.k (by decide) (by decide)) (hS.r (by decide)) ?_
      refine j_getR (q := 27) rfl f_X11_210 rfl (hS.lt (by decide)) (hS.k (by decide) (by decide)) (hS.r (by decide)) ?_
      refine j_iload_n rfl rfl ?_
      refine j_iald (n := 6) rfl (hS.lt (by decide)) (hS.k (by decide) (by decide)) (hS.n (by decide) (by decide)) (by omega) (by omega) (by decide) ?_
      have u23_1 := hI.a 27 (0) 10 (by decide) box.toNat
      refine j_istore_n rfl (by decide) ?_
      refine j_iload_n rfl rfl ?_
      refine j_if_lt (tgt := 50) rfl (by decide) (by omega) (by omega) (fun hb26_1 => ?_) (fun hb26_1 => ?_)
      · skip
        refine j_iload_n rfl rfl ?_
        refine j_bipush rfl (by decide) ?_
        refine j_icmp_lt (tgt := 88) rfl (by decide) (by omega) (by omega) (by omega) (by omega) (fun hb53_1 => ?_) (fun hb53_1 => ?_)
        · skip
          refine j_iload_n rfl rfl ?_
          refine j_bipush rfl (by decide) ?_
          refine j_icmp_lt (tgt := 102) rfl (by decide) (by omega) (by omega) (by omega) (by omega) (fun hb91_1 => ?_) (fun hb91_1 => ?_)
          · skip
            refine j_iload_n rfl rfl ?_
            by_cases hs103_1_30 : what = 30
            · skip
              refine j_tableIn (tgt := 128) rfl (by omega) (by omega) (by omega) (by omega) (by rw [hs103_1_30]; rfl) (by decide) ?_
              refine j_iload_n rfl rfl ?_
              refine j_if_ne (tgt := 136) rfl (by decide) (by omega) (by omega) (fun hb129_1 => ?_) (fun hb129_1 => ?_)
              · skip
                refine j_iconst rfl ?_
                refine j_iret rfl rfl ?_ rfl (Nat.le_refl _)
                unfold FX11_ofRun
                rw [if_neg hb1_1, if_pos hb9_1, if_pos hb26_1, if_pos hb53_1, if_pos hb91_1, if_pos hs103_1_30, if_pos hb129_1]
                exact ⟨rfl, rfl⟩
              · skip
                refine j_iconst rfl ?_
                refine j_goto (tgt := 137) rfl (by decide) ?_
                refine j_iret rfl rfl ?_ rfl (Nat.le_refl _)
                unfold FX11_ofRun
                rw [if_neg hb1_1, if_pos hb9_1, if_pos hb26_1, if_pos hb53_1, if_pos hb91_1, if_pos hs103_1_30, if_neg (not_not_intro hb129_1)]
                exact ⟨rfl, rfl⟩
            · skip
              by_cases hs103_1_31 : what = 31
              · skip
                refine j_tableIn (tgt := 138) rfl (by omega) (by omega) (by omega) (by omega) (by rw [hs103_1_31]; rfl) (by decide) ?_
                refine j_aload_n rfl rfl ?_
                refine j_getR (q := 24) rfl f_X11_65 rfl (hS.lt (by decide)) (hS.k (by decide) (by decide)) (hS.r (by decide)) ?_
                refine j_getR (q := 28) rfl f_X11_219 rfl (hS.lt (by decide)) (hS.k (by decide) (by decide)) (hS.r (by decide)) ?_
                refine j_iload_n rfl rfl ?_
                refine j_iald (n := 6) rfl (hS.lt (by decide)) (hS.k (by decide) (by decide)) (hS.n (by decide) (by decide)) (by omega) (by omega) (by decide) ?_
                have u146_1 := hI.a 28 (-1) 200 (by decide) box.toNat
                refine j_iret rfl rfl ?_ rfl (Nat.le_refl _)
                unfold FX11_ofRun
                rw [if_neg hb1_1, if_pos hb9_1, if_pos hb26_1, if_pos hb53_1, if_pos hb91_1, if_neg hs103_1_30, if_pos hs103_1_31]
                exact ⟨rfl, rfl⟩
              · skip
                by_cases hs103_1_32 : what = 32
                · skip
                  refine j_tableIn (tgt := 148) rfl (by omega) (by omega) (by omega) (by omega) (by rw [hs103_1_32]; rfl) (by decide) ?_
                  refine j_aload_n rfl rfl ?_
                  refine j_getR (q := 24) rfl f_X11_65 rfl (hS.lt (by decide)) (hS.k (by decide) (by decide)) (hS.r (by decide)) ?_
                  refine j_getR (q := 29) rfl f_X11_222 rfl (hS.lt (by decide)) (hS.k (by decide) (by decide)) (hS.r (by decide)) ?_
                  refine j_iload_n rfl rfl ?_
                  refine j_iald (n := 6) rfl (hS.lt (by decide)) (hS.k (by decide) (by decide)) (hS.n (by decide) (by decide)) (by omega) (by omega) (by decide) ?_
                  have u156_1 := mi_rng m 29 box.toNat
                  refine j_iret rfl rfl ?_ rfl (Nat.le_refl _)
                  unfold FX11_ofRun
                  rw [if_neg hb1_1, if_pos hb9_1, if_pos hb26_1, if_pos hb53_1, if_pos hb91_1, if_neg hs103_1_30, if_neg hs103_1_31, if_pos hs103_1_32]
                  exact ⟨rfl, rfl⟩
                · skip
                  refine j_tableOut (tgt := 158) rfl (by omega) (by omega) (by omega) (by decide) ?_
                  refine j_ldc (v := -2000000000) rfl k_X11_136 ?_
                  refine j_iret rfl rfl ?_ rfl (Nat.le_refl _)
                  unfold FX11_ofRun
                  rw [if_neg hb1_1, if_pos hb9_1, if_pos hb26_1, if_pos hb53_1, if_pos hb91_1, if_neg hs103_1_30, if_neg hs103_1_31, if_neg hs103_1_32]
                  exact ⟨rfl, rfl⟩
          · skip
            refine j_iload_n rfl rfl ?_
            refine j_bipush rfl (by decide) ?_
            refine j_icmp_ge (tgt := 102) rfl (by decide) (by omega) (by omega) (by omega) (by omega) (fun hb97_1 => ?_) (fun hb97_1 => ?_)
            · skip
              refine j_iload_n rfl rfl ?_
              by_cases hs103_2_30 : what = 30
              · skip
                refine j_tableIn (tgt := 128) rfl (by omega) (by omega) (by omega) (by omega) (by rw [hs103_2_30]; rfl) (by decide) ?_
                refine j_iload_n rfl rfl ?_
                refine j_if_ne (tgt := 136) rfl (by decide) (by omega) (by omega) (fun hb129_2 => ?_) (fun hb129_2 => ?_)
                · skip
                  refine j_iconst rfl ?_
                  refine j_iret rfl rfl ?_ rfl (Nat.le_refl _)
                  unfold FX11_ofRun
                  rw [if_neg hb1_1, if_pos hb9_1, if_pos hb26_1, if_pos hb53_1, if_neg hb91_1, if_pos hb97_1, if_pos hs103_2_30, if_pos hb129_2]
                  exact ⟨rfl, rfl⟩
                · skip
                  refine j_iconst rfl ?_
                  refine j_goto (tgt := 137) rfl (by decide) ?_
                  refine j_iret rfl rfl ?_ rfl (Nat.le_refl _)
                  unfold FX11_ofRun
                  rw [if_neg hb1_1, if_pos hb9_1, if_pos hb26_1, if_pos hb53_1, if_neg hb91_1, if_pos hb97_1, if_pos hs103_2_30, if_neg (not_not_intro hb129_2)]
                  exact ⟨rfl, rfl⟩
              · skip
                by_cases hs103_2_31 : what = 31
                · skip
                  refine j_tableIn (tgt := 138) rfl (by omega) (by omega) (by omega) (by omega) (by rw [hs103_2_31]; rfl) (by decide) ?_
                  refine j_aload_n rfl rfl ?_
                  refine j_getR (q := 24) rfl f_X11_65 rfl (hS.lt (by decide)) (hS.k (by decide) (by decide)) (hS.r (by decide)) ?_
                  refine j_getR (q := 28) rfl f_X11_219 rfl (hS.lt (by decide)) (hS.k (by decide) (by decide)) (hS.r (by decide)) ?_
                  refine j_iload_n rfl rfl ?_
                  refine j_iald (n := 6) rfl (hS.lt (by decide)) (hS.k (by decide) (by decide)) (hS.n (by decide) (by decide)) (by omega) (by omega) (by decide) ?_
                  have u146_2 := hI.a 28 (-1) 200 (by decide) box.toNat
                  refine j_iret rfl rfl ?_ rfl (Nat.le_refl _)
                  unfold FX11_ofRun
                  rw [if_neg hb1_1, if_pos hb9_1, if_pos hb26_1, if_pos hb53_1, if_neg hb91_1, if_pos hb97_1, if_neg hs103_2_30, if_pos hs103_2_31]
                  exact ⟨rfl, rfl⟩
                · skip
                  by_cases hs103_2_32 : what = 32
                  · skip
                    refine j_tableIn (tgt := 148) rfl (by omega) (by omega) (by omega) (by omega) (by rw [hs103_2_32]; rfl) (by decide) ?_
                    refine j_aload_n rfl rfl ?_
                    refine j_getR (q := 24) rfl f_X11_65 rfl (hS.lt (by decide)) (hS.k (by decide) (by decide)) (hS.r (by decide)) ?_
                    refine j_getR (q := 29) rfl f_X11_222 rfl (hS.lt (by decide)) (hS.k (by decide) (by decide)) (hS.r (by decide)) ?_
                    refine j_iload_n rfl rfl ?_
                    refine j_iald (n := 6) rfl (hS.lt (by decide)) (hS.k (by decide) (by decide)) (hS.n (by decide) (by decide)) (by omega) (by omega) (by decide) ?_
                    have u156_2 := mi_rng m 29 box.toNat
                    refine j_iret rfl rfl ?_ rfl (Nat.le_refl _)
                    unfold FX11_ofRun
                    rw [if_neg hb1_1, if_pos hb9_1, if_pos hb26_1, if_pos hb53_1, if_neg hb91_1, if_pos hb97_1, if_neg hs103_2_30, if_neg hs103_2_31, if_pos hs103_2_32]
                    exact ⟨rfl, rfl⟩
                  · skip
                    refine j_tableOut (tgt := 158) rfl (by omega) (by omega) (by omega) (by decide) ?_
                    refine j_ldc (v := -2000000000) rfl k_X11_136 ?_
                    refine j_iret rfl rfl ?_ rfl (Nat.le_refl _)
                    unfold FX11_ofRun
                    rw [if_neg hb1_1, if_pos hb9_1, if_pos hb26_1, if_pos hb53_1, if_neg hb91_1, if_pos hb97_1, if_neg hs103_2_30, if_neg hs103_2_31, if_neg hs103_2_32]
                    exact ⟨rfl, rfl⟩
            · skip
              refine j_iload_n rfl rfl ?_
              refine j_iret rfl rfl ?_ rfl (Nat.le_refl _)
              unfold FX11_ofRun
              rw [if_neg hb1_1, if_pos hb9_1, if_pos hb26_1, if_pos hb53_1, if_neg hb91_1, if_neg hb97_1]
              exact ⟨rfl, rfl⟩
        · skip
          refine j_iload_n rfl rfl ?_
          refine j_bipush rfl (by decide) ?_
          refine j_icmp_ge (tgt := 88) rfl (by decide) (by omega) (by omega) (by omega) (by omega) (fun hb59_1 => ?_) (fun hb59_1 => ?_)
          · skip
            refine j_iload_n rfl rfl ?_
            refine j_bipush rfl (by decide) ?_
            refine j_icmp_lt (tgt := 102) rfl (by decide) (by omega) (by omega) (by omega) (by omega) (fun hb91_2 => ?_) (fun hb91_2 => ?_)
            · skip
              refine j_iload_n rfl rfl ?_
              by_cases hs103_3_30 : what = 30
              · skip
                refine j_tableIn (tgt := 128) rfl (by omega) (by omega) (by omega) (by omega) (by rw [hs103_3_30]; rfl) (by decide) ?_
                refine j_iload_n rfl rfl ?_
                refine j_if_ne (tgt := 136) rfl (by decide) (by omega) (by omega) (fun hb129_3 => ?_) (fun hb129_3 => ?_)
                · skip
                  refine j_iconst rfl ?_
                  refine j_iret rfl rfl ?_ rfl (Nat.le_refl _)
                  unfold FX11_ofRun
                  rw [if_neg hb1_1, if_pos hb9_1, if_pos hb26_1, if_neg hb53_1, if_pos hb59_1, if_pos hb91_2, if_pos hs103_3_30, if_pos hb129_3]
                  exact ⟨rfl, rfl⟩
                · skip
                  refine j_iconst rfl ?_
                  refine j_goto (tgt := 137) rfl (by decide) ?_
                  refine j_iret rfl rfl ?_ rfl (Nat.le_refl _)
                  unfold FX11_ofRun
                  rw [if_neg hb1_1, if_pos hb9_1, if_pos hb26_1, if_neg hb53_1, if_pos hb59_1, if_pos hb91_2, if_pos hs103_3_30, if_neg (not_not_intro hb129_3)]
                  exact ⟨rfl, rfl⟩
              · skip
                by_cases hs103_3_31 : what = 31
                · skip
                  refine j_tableIn (tgt := 138) rfl (by omega) (by omega) (by omega) (by omega) (by rw [hs103_3_31]; rfl) (by decide) ?_
                  refine j_aload_n rfl rfl ?_
                  refine j_getR (q := 24) rfl f_X11_65 rfl (hS.lt (by decide)) (hS.k (by decide) (by decide)) (hS.r (by decide)) ?_
                  refine j_getR (q := 28) rfl f_X11_219 rfl (hS.lt (by decide)) (hS.k (by decide) (by decide)) (hS.r (by decide)) ?_
                  refine j_iload_n rfl rfl ?_
                  refine j_iald (n := 6) rfl (hS.lt (by decide)) (hS.k (by decide) (by decide)) (hS.n (by decide) (by decide)) (by omega) (by omega) (by decide) ?_
                  have u146_3 := hI.a 28 (-1) 200 (by decide) box.toNat
                  refine j_iret rfl rfl ?_ rfl (Nat.le_refl _)
                  unfold FX11_ofRun
                  rw [if_neg hb1_1, if_pos hb9_1, if_pos hb26_1, if_neg hb53_1, if_pos hb59_1, if_pos hb91_2, if_neg hs103_3_30, if_pos hs103_3_31]
                  exact ⟨rfl, rfl⟩
                · skip
                  by_cases hs103_3_32 : what = 32
                  · skip
                    refine j_tableIn (tgt := 148) rfl (by omega) (by omega) (by omega) (by omega) (by rw [hs103_3_32]; rfl) (by decide) ?_
                    refine j_aload_n rfl rfl ?_
                    refine j_getR (q := 24) rfl f_X11_65 rfl (hS.lt (by decide)) (hS.k (by decide) (by decide)) (hS.r (by decide)) ?_
                    refine j_getR (q := 29) rfl f_X11_222 rfl (hS.lt (by decide)) (hS.k (by decide) (by decide)) (hS.r (by decide)) ?_
                    refine j_iload_n rfl rfl ?_
                    refine j_iald (n := 6) rfl (hS.lt (by decide)) (hS.k (by decide) (by decide)) (hS.n (by decide) (by decide)) (by omega) (by omega) (by decide) ?_
                    have u156_3 := mi_rng m 29 box.toNat
                    refine j_iret rfl rfl ?_ rfl (Nat.le_refl _)
                    unfold FX11_ofRun
                    rw [if_neg hb1_1, if_pos hb9_1, if_pos hb26_1, if_neg hb53_1, if_pos hb59_1, if_pos hb91_2, if_neg hs103_3_30, if_neg hs103_3_31, if_pos hs103_3_32]
                    exact ⟨rfl, rfl⟩
                  · skip
                    refine j_tableOut (tgt := 158) rfl (by omega) (by omega) (by omega) (by decide) ?_
                    refine j_ldc (v := -2000000000) rfl k_X11_136 ?_
                    refine j_iret rfl rfl ?_ rfl (Nat.le_refl _)
                    unfold FX11_ofRun
                    rw [if_neg hb1_1, if_pos hb9_1, if_pos hb26_1, if_neg hb53_1, if_pos hb59_1, if_pos hb91_2, if_neg hs103_3_30, if_neg hs103_3_31, if_neg hs103_3_32]
                    exact ⟨rfl, rfl⟩
            · skip
              refine j_iload_n rfl rfl ?_
              refine j_bipush rfl (by decide) ?_
              refine j_icmp_ge (tgt := 102) rfl (by decide) (by omega) (by omega) (by omega) (by omega) (fun hb97_2 => ?_) (fun hb97_2 => ?_)
              · skip
                refine j_iload_n rfl rfl ?_
                by_cases hs103_4_30 : what = 30
                · skip
                  refine j_tableIn (tgt := 128) rfl (by omega) (by omega) (by omega) (by omega) (by rw [hs103_4_30]; rfl) (by decide) ?_
                  refine j_iload_n rfl rfl ?_
                  refine j_if_ne (tgt := 136) rfl (by decide) (by omega) (by omega) (fun hb129_4 => ?_) (fun hb129_4 => ?_)
                  · skip
                    refine j_iconst rfl ?_
                    refine j_iret rfl rfl ?_ rfl (Nat.le_refl _)
                    unfold FX11_ofRun
                    rw [if_neg hb1_1, if_pos hb9_1, if_pos hb26_1, if_neg hb53_1, if_pos hb59_1, if_neg hb91_2, if_pos hb97_2, if_pos hs103_4_30, if_pos hb129_4]
                    exact ⟨rfl, rfl⟩
                  · skip
                    refine j_iconst rfl ?_
                    refine j_goto (tgt := 137) rfl (by decide) ?_
                    refine j_iret rfl rfl ?_ rfl (Nat.le_refl _)
                    unfold FX11_ofRun
                    rw [if_neg hb1_1, if_pos hb9_1, if_pos hb26_1, if_neg hb53_1, if_pos hb59_1, if_neg hb91_2, if_pos hb97_2, if_pos hs103_4_30, if_neg (not_not_intro hb129_4)]
                    exact ⟨rfl, rfl⟩
                · skip
                  by_cases hs103_4_31 : what = 31
                  · skip
                    refine j_tableIn (tgt := 138) rfl (by omega) (by omega) (by omega) (by omega) (by rw [hs103_4_31]; rfl) (by decide) ?_
                    refine j_aload_n rfl rfl ?_
                    refine j_getR (q := 24) rfl f_X11_65 rfl (hS.lt (by decide)) (hS.k (by decide) (by decide)) (hS.r (by decide)) ?_
                    refine j_getR (q := 28) rfl f_X11_219 rfl (hS.lt (by decide)) (hS.k (by decide) (by decide)) (hS.r (by decide)) ?_
                    refine j_iload_n rfl rfl ?_
                    refine j_iald (n := 6) rfl (hS.lt (by decide)) (hS.k (by decide) (by decide)) (hS.n (by decide) (by decide)) (by omega) (by omega) (by decide) ?_
                    have u146_4 := hI.a 28 (-1) 200 (by decide) box.toNat
                    refine j_iret rfl rfl ?_ rfl (Nat.le_refl _)
                    unfold FX11_ofRun
                    rw [if_neg hb1_1, if_pos hb9_1, if_pos hb26_1, if_neg hb53_1, if_pos hb59_1, if_neg hb91_2, if_pos hb97_2, if_neg hs103_4_30, if_pos hs103_4_31]
                    exact ⟨rfl, rfl⟩
                  · skip
                    by_cases hs103_4_32 : what = 32
                    · skip
                      refine j_tableIn (tgt := 148) rfl (by omega) (by omega) (by omega) (by omega) (by rw [hs103_4_32]; rfl) (by decide) ?_
                      refine j_aload_n rfl rfl ?_
                      refine j_getR (q := 24) rfl f_X11_65 rfl (hS.lt (by decide)) (hS.k (by decide) (by decide)) (hS.r (by decide)) ?_
                      refine j_getR (q := 29) rfl f_X11_222 rfl (hS.lt (by decide)) (hS.k (by decide) (by decide)) (hS.r (by decide)) ?_
                      refine j_iload_n rfl rfl ?_
                      refine j_iald (n := 6) rfl (hS.lt (by decide)) (hS.k (by decide) (by decide)) (hS.n (by decide) (by decide)) (by omega) (by omega) (by decide) ?_
                      have u156_4 := mi_rng m 29 box.toNat
                      refine j_iret rfl rfl ?_ rfl (Nat.le_refl _)
                      unfold FX11_ofRun
                      rw [if_neg hb1_1, if_pos hb9_1, if_pos hb26_1, if_neg hb53_1, if_pos hb59_1, if_neg hb91_2, if_pos hb97_2, if_neg hs103_4_30, if_neg hs103_4_31, if_pos hs103_4_32]
                      exact ⟨rfl, rfl⟩
                    · skip
                      refine j_tableOut (tgt := 158) rfl (by omega) (by omega) (by omega) (by decide) ?_
                      refine j_ldc (v := -2000000000) rfl k_X11_136 ?_
                      refine j_iret rfl rfl ?_ rfl (Nat.le_refl _)
                      unfold FX11_ofRun
                      rw [if_neg hb1_1, if_pos hb9_1, if_pos hb26_1, if_neg hb53_1, if_pos hb59_1, if_neg hb91_2, if_pos hb97_2, if_neg hs103_4_30, if_neg hs103_4_31, if_neg hs103_4_32]
                      exact ⟨rfl, rfl⟩
              · skip
                refine j_iload_n rfl rfl ?_
                refine j_iret rfl rfl ?_ rfl (Nat.le_refl _)
                unfold FX11_ofRun
                rw [if_neg hb1_1, if_pos hb9_1, if_pos hb26_1, if_neg hb53_1, if_pos hb59_1, if_neg hb91_2, if_neg hb97_2]
                exact ⟨rfl, rfl⟩
          · skip
            refine j_iload_n rfl rfl ?_
            refine j_if_ne (tgt := 85) rfl (by decide) (by omega) (by omega) (fun hb63_1 => ?_) (fun hb63_1 => ?_)
            · skip
              refine j_ldc (v := -2000000000) rfl k_X11_136 ?_
              refine j_iret rfl rfl ?_ rfl (Nat.le_refl _)
              unfold FX11_ofRun
              rw [if_neg hb1_1, if_pos hb9_1, if_pos hb26_1, if_neg hb53_1, if_neg hb59_1, if_pos hb63_1]
              exact ⟨rfl, rfl⟩
            · skip
              refine j_aload_n rfl rfl ?_
              refine j_getR (q := 24) rfl f_X11_65 rfl (hS.lt (by decide)) (hS.k (by decide) (by decide)) (hS.r (by decide)) ?_
              refine j_getR (q := 26) rfl f_X11_216 rfl (hS.lt (by decide)) (hS.k (by decide) (by decide)) (hS.r (by decide)) ?_
              refine j_iload_n rfl rfl ?_
              refine j_iconst rfl ?_
              refine j_imul rfl ?_
              refine j_iload_n rfl rfl ?_
              refine j_iadd rfl ?_
              refine j_bipush rfl (by decide) ?_
              refine j_isub rfl ?_
              refine j_iald (n := 24) rfl (hS.lt (by decide)) (hS.k (by decide) (by decide)) (hS.n (by decide) (by decide)) (by omega) (by omega) (by decide) ?_
              have u81_1 := hI.a 26 (-1000000) 1000000 (by decide) (((box * 4) + what) - 10).toNat
              refine j_goto (tgt := 87) rfl (by decide) ?_
              refine j_iret rfl rfl ?_ rfl (Nat.le_refl _)
              unfold FX11_ofRun
              rw [if_neg hb1_1, if_pos hb9_1, if_pos hb26_1, if_neg hb53_1, if_neg hb59_1, if_neg (not_not_intro hb63_1)]
              exact ⟨rfl, rfl⟩
      · skip
        refine j_iload_n rfl rfl ?_
        refine j_bipush rfl (by decide) ?_
        refine j_icmp_ge (tgt := 50) rfl (by decide) (by omega) (by omega) (by omega) (by omega) (fun hb32_1 => ?_) (fun hb32_1 => ?_)
        · skip
          refine j_iload_n rfl rfl ?_
          refine j_bipush rfl (by decide) ?_
          refine j_icmp_lt (tgt := 88) rfl (by decide) (by omega) (by omega) (by omega) (by omega) (fun hb53_2 => ?_) (fun hb53_2 => ?_)
          · skip
            refine j_iload_n rfl rfl ?_
            refine j_bipush rfl (by decide) ?_
            refine j_icmp_lt (tgt := 102) rfl (by decide) (by omega) (by omega) (by omega) (by omega) (fun hb91_3 => ?_) (fun hb91_3 => ?_)
            · skip
              refine j_iload_n rfl rfl ?_
              by_cases hs103_5_30 : what = 30
              · skip
                refine j_tableIn (tgt := 128) rfl (by omega) (by omega) (by omega) (by omega) (by rw [hs103_5_30]; rfl) (by decide) ?_
                refine j_iload_n rfl rfl ?_
                refine j_if_ne (tgt := 136) rfl (by decide) (by omega) (by omega) (fun hb129_5 => ?_) (fun hb129_5 => ?_)
                · skip
                  refine j_iconst rfl ?_
                  refine j_iret rfl rfl ?_ rfl (Nat.le_refl _)
                  unfold FX11_ofRun
                  rw [if_neg hb1_1, if_pos hb9_1, if_neg hb26_1, if_pos hb32_1, if_pos hb53_2, if_pos hb91_3, if_pos hs103_5_30, if_pos hb129_5]
                  exact ⟨rfl, rfl⟩
                · skip
                  refine j_iconst rfl ?_
                  refine j_goto (tgt := 137) rfl (by decide) ?_
                  refine j_iret rfl rfl ?_ rfl (Nat.le_refl _)
                  unfold FX11_ofRun
                  rw [if_neg hb1_1, if_pos hb9_1, if_neg hb26_1, if_pos hb32_1, if_pos hb53_2, if_pos hb91_3, if_pos hs103_5_30, if_neg (not_not_intro hb129_5)]
                  exact ⟨rfl, rfl⟩
              · skip
                by_cases hs103_5_31 : what = 31
                · skip
                  refine j_tableIn (tgt := 138) rfl (by omega) (by omega) (by omega) (by omega) (by rw [hs103_5_31]; rfl) (by decide) ?_
                  refine j_aload_n rfl rfl ?_
                  refine j_getR (q := 24) rfl f_X11_65 rfl (hS.lt (by decide)) (hS.k (by decide) (by decide)) (hS.r (by decide)) ?_
                  refine j_getR (q := 28) rfl f_X11_219 rfl (hS.lt (by decide)) (hS.k (by decide) (by decide)) (hS.r (by decide)) ?_
                  refine j_iload_n rfl rfl ?_
                  refine j_iald (n := 6) rfl (hS.lt (by decide)) (hS.k (by decide) (by decide)) (hS.n (by decide) (by decide)) (by omega) (by omega) (by decide) ?_
                  have u146_5 := hI.a 28 (-1) 200 (by decide) box.toNat
                  refine j_iret rfl rfl ?_ rfl (Nat.le_refl _)
                  unfold FX11_ofRun
                  rw [if_neg hb1_1, if_pos hb9_1, if_neg hb26_1, if_pos hb32_1, if_pos hb53_2, if_pos hb91_3, if_neg hs103_5_30, if_pos hs103_5_31]
                  exact ⟨rfl, rfl⟩
                · skip
                  by_cases hs103_5_32 : what = 32
                  · skip
                    refine j_tableIn (tgt := 148) rfl (by omega) (by omega) (by omega) (by omega) (by rw [hs103_5_32]; rfl) (by decide) ?_
                    refine j_aload_n rfl rfl ?_
                    refine j_getR (q := 24) rfl f_X11_65 rfl (hS.lt (by decide)) (hS.k (by decide) (by decide)) (hS.r (by decide)) ?_
                    refine j_getR (q := 29) rfl f_X11_222 rfl (hS.lt (by decide)) (hS.k (by decide) (by decide)) (hS.r (by decide)) ?_
                    refine j_iload_n rfl rfl ?_
                    refine j_iald (n := 6) rfl (hS.lt (by decide)) (hS.k (by decide) (by decide)) (hS.n (by decide) (by decide)) (by omega) (by omega) (by decide) ?_
                    have u156_5 := mi_rng m 29 box.toNat
                    refine j_iret rfl rfl ?_ rfl (Nat.le_refl _)
                    unfold FX11_ofRun
                    rw [if_neg hb1_1, if_pos hb9_1, if_neg hb26_1, if_pos hb32_1, if_pos hb53_2, if_pos hb91_3, if_neg hs103_5_30, if_neg hs103_5_31, if_pos hs103_5_32]
                    exact ⟨rfl, rfl⟩
                  · skip
                    refine j_tableOut (tgt := 158) rfl (by omega) (by omega) (by omega) (by decide) ?_
                    refine j_ldc (v := -2000000000) rfl k_X11_136 ?_
                    refine j_iret rfl rfl ?_ rfl (Nat.le_refl _)
                    unfold FX11_ofRun
                    rw [if_neg hb1_1, if_pos hb9_1, if_neg hb26_1, if_pos hb32_1, if_pos hb53_2, if_pos hb91_3, if_neg hs103_5_30, if_neg hs103_5_31, if_neg hs103_5_32]
                    exact ⟨rfl, rfl⟩
            · skip
              refine j_iload_n rfl rfl ?_
              refine j_bipush rfl (by decide) ?_
              refine j_icmp_ge (tgt := 102) rfl (by decide) (by omega) (by omega) (by omega) (by omega) (fun hb97_3 => ?_) (fun hb97_3 => ?_)
              · skip
                refine j_iload_n rfl rfl ?_
                by_cases hs103_6_30 : what = 30
                · skip
                  refine j_tableIn (tgt := 128) rfl (by omega) (by omega) (by omega) (by omega) (by rw [hs103_6_30]; rfl) (by decide) ?_
                  refine j_iload_n rfl rfl ?_
                  refine j_if_ne (tgt := 136) rfl (by decide) (by omega) (by omega) (fun hb129_6 => ?_) (fun hb129_6 => ?_)
                  · skip
                    refine j_iconst rfl ?_
                    refine j_iret rfl rfl ?_ rfl (Nat.le_refl _)
                    unfold FX11_ofRun
                    rw [if_neg hb1_1, if_pos hb9_1, if_neg hb26_1, if_pos hb32_1, if_pos hb53_2, if_neg hb91_3, if_pos hb97_3, if_pos hs103_6_30, if_pos hb129_6]
                    exact ⟨rfl, rfl⟩
                  · skip
                    refine j_iconst rfl ?_
                    refine j_goto (tgt := 137) rfl (by decide) ?_
                    refine j_iret rfl rfl ?_ rfl (Nat.le_refl _)
                    unfold FX11_ofRun
                    rw [if_neg hb1_1, if_pos hb9_1, if_neg hb26_1, if_pos hb32_1, if_pos hb53_2, if_neg hb91_3, if_pos hb97_3, if_pos hs103_6_30, if_neg (not_not_intro hb129_6)]
                    exact ⟨rfl, rfl⟩
                · skip
                  by_cases hs103_6_31 : what = 31
                  · skip
                    refine j_tableIn (tgt := 138) rfl (by omega) (by omega) (by omega) (by omega) (by rw [hs103_6_31]; rfl) (by decide) ?_
                    refine j_aload_n rfl rfl ?_
                    refine j_getR (q := 24) rfl f_X11_65 rfl (hS.lt (by decide)) (hS.k (by decide) (by decide)) (hS.r (by decide)) ?_
                    refine j_getR (q := 28) rfl f_X11_219 rfl (hS.lt (by decide)) (hS.k (by decide) (by decide)) (hS.r (by decide)) ?_
                    refine j_iload_n rfl rfl ?_
                    refine j_iald (n := 6) rfl (hS.lt (by decide)) (hS.k (by decide) (by decide)) (hS.n (by decide) (by decide)) (by omega) (by omega) (by decide) ?_
                    have u146_6 := hI.a 28 (-1) 200 (by decide) box.toNat
                    refine j_iret rfl rfl ?_ rfl (Nat.le_refl _)
                    unfold FX11_ofRun
                    rw [if_neg hb1_1, if_pos hb9_1, if_neg hb26_1, if_pos hb32_1, if_pos hb53_2, if_neg hb91_3, if_pos hb97_3, if_neg hs103_6_30, if_pos hs103_6_31]
                    exact ⟨rfl, rfl⟩
                  · skip
                    by_cases hs103_6_32 : what = 32
                    · skip
                      refine j_tableIn (tgt := 148) rfl (by omega) (by omega) (by omega) (by omega) (by rw [hs103_6_32]; rfl) (by decide) ?_
                      refine j_aload_n rfl rfl ?_
                      refine j_getR (q := 24) rfl f_X11_65 rfl (hS.lt (by decide)) (hS.k (by decide) (by decide)) (hS.r (by decide)) ?_
                      refine j_getR (q := 29) rfl f_X11_222 rfl (hS.lt (by decide)) (hS.k (by decide) (by decide)) (hS.r (by decide)) ?_
                      refine j_iload_n rfl rfl ?_
                      refine j_iald (n := 6) rfl (hS.lt (by decide)) (hS.k (by decide) (by decide)) (hS.n (by decide) (by decide)) (by omega) (by omega) (by decide) ?_
                      have u156_6 := mi_rng m 29 box.toNat
                      refine j_iret rfl rfl ?_ rfl (Nat.le_refl _)
                      unfold FX11_ofRun
                      rw [if_neg hb1_1, if_pos hb9_1, if_neg hb26_1, if_pos hb32_1, if_pos hb53_2, if_neg hb91_3, if_pos hb97_3, if_neg hs103_6_30, if_neg hs103_6_31, if_pos hs103_6_32]
                      exact ⟨rfl, rfl⟩
                    · skip
                      refine j_tableOut (tgt := 158) rfl (by omega) (by omega) (by omega) (by decide) ?_
                      refine j_ldc (v := -2000000000) rfl k_X11_136 ?_
                      refine j_iret rfl rfl ?_ rfl (Nat.le_refl _)
                      unfold FX11_ofRun
                      rw [if_neg hb1_1, if_pos hb9_1, if_neg hb26_1, if_pos hb32_1, if_pos hb53_2, if_neg hb91_3, if_pos hb97_3, if_neg hs103_6_30, if_neg hs103_6_31, if_neg hs103_6_32]
                      exact ⟨rfl, rfl⟩
              · skip
                refine j_iload_n rfl rfl ?_
                refine j_iret rfl rfl ?_ rfl (Nat.le_refl _)
                unfold FX11_ofRun
                rw [if_neg hb1_1, if_pos hb9_1, if_neg hb26_1, if_pos hb32_1, if_pos hb53_2, if_neg hb91_3, if_neg hb97_3]
                exact ⟨rfl, rfl⟩
          · skip
            refine j_iload_n rfl rfl ?_
            refine j_bipush rfl (by decide) ?_
            refine j_icmp_ge (tgt := 88) rfl (by decide) (by omega) (by omega) (by omega) (by omega) (fun hb59_2 => ?_) (fun hb59_2 => ?_)
            · skip
              refine j_iload_n rfl rfl ?_
              refine j_bipush rfl (by decide) ?_
              refine j_icmp_lt (tgt := 102) rfl (by decide) (by omega) (by omega) (by omega) (by omega) (fun hb91_4 => ?_) (fun hb91_4 => ?_)
              · skip
                refine j_iload_n rfl rfl ?_
                by_cases hs103_7_30 : what = 30
                · skip
                  refine j_tableIn (tgt := 128) rfl (by omega) (by omega) (by omega) (by omega) (by rw [hs103_7_30]; rfl) (by decide) ?_
                  refine j_iload_n rfl rfl ?_
                  refine j_if_ne (tgt := 136) rfl (by decide) (by omega) (by omega) (fun hb129_7 => ?_) (fun hb129_7 => ?_)
                  · skip
                    refine j_iconst rfl ?_
                    refine j_iret rfl rfl ?_ rfl (Nat.le_refl _)
                    unfold FX11_ofRun
                    rw [if_neg hb1_1, if_pos hb9_1, if_neg hb26_1, if_pos hb32_1, if_neg hb53_2, if_pos hb59_2, if_pos hb91_4, if_pos hs103_7_30, if_pos hb129_7]
                    exact ⟨rfl, rfl⟩
                  · skip
                    refine j_iconst rfl ?_
                    refine j_goto (tgt := 137) rfl (by decide) ?_
                    refine j_iret rfl rfl ?_ rfl (Nat.le_refl _)
                    unfold FX11_ofRun
                    rw [if_neg hb1_1, if_pos hb9_1, if_neg hb26_1, if_pos hb32_1, if_neg hb53_2, if_pos hb59_2, if_pos hb91_4, if_pos hs103_7_30, if_neg (not_not_intro hb129_7)]
                    exact ⟨rfl, rfl⟩
                · skip
                  by_cases hs103_7_31 : what = 31
                  · skip
                    refine j_tableIn (tgt := 138) rfl (by omega) (by omega) (by omega) (by omega) (by rw [hs103_7_31]; rfl) (by decide) ?_
                    refine j_aload_n rfl rfl ?_
                    refine j_getR (q := 24) rfl f_X11_65 rfl (hS.lt (by decide)) (hS.k (by decide) (by decide)) (hS.r (by decide)) ?_
                    refine j_getR (q := 28) rfl f_X11_219 rfl (hS.lt (by decide)) (hS.k (by decide) (by decide)) (hS.r (by decide)) ?_
                    refine j_iload_n rfl rfl ?_
                    refine j_iald (n := 6) rfl (hS.lt (by decide)) (hS.k (by decide) (by decide)) (hS.n (by decide) (by decide)) (by omega) (by omega) (by decide) ?_
                    have u146_7 := hI.a 28 (-1) 200 (by decide) box.toNat
                    refine j_iret rfl rfl ?_ rfl (Nat.le_refl _)
                    unfold FX11_ofRun
                    rw [if_neg hb1_1, if_pos hb9_1, if_neg hb26_1, if_pos hb32_1, if_neg hb53_2, if_pos hb59_2, if_pos hb91_4, if_neg hs103_7_30, if_pos hs103_7_31]
                    exact ⟨rfl, rfl⟩
                  · skip
                    by_cases hs103_7_32 : what = 32
                    · skip
                      refine j_tableIn (tgt := 148) rfl (by omega) (by omega) (by omega) (by omega) (by rw [hs103_7_32]; rfl) (by decide) ?_
                      refine j_aload_n rfl rfl ?_
                      refine j_getR (q := 24) rfl f_X11_65 rfl (hS.lt (by decide)) (hS.k (by decide) (by decide)) (hS.r (by decide)) ?_
                      refine j_getR (q := 29) rfl f_X11_222 rfl (hS.lt (by decide)) (hS.k (by decide) (by decide)) (hS.r (by decide)) ?_
                      refine j_iload_n rfl rfl ?_
                      refine j_iald (n := 6) rfl (hS.lt (by decide)) (hS.k (by decide) (by decide)) (hS.n (by decide) (by decide)) (by omega) (by omega) (by decide) ?_
                      have u156_7 := mi_rng m 29 box.toNat
                      refine j_iret rfl rfl ?_ rfl (Nat.le_refl _)
                      unfold FX11_ofRun
                      rw [if_neg hb1_1, if_pos hb9_1, if_neg hb26_1, if_pos hb32_1, if_neg hb53_2, if_pos hb59_2, if_pos hb91_4, if_neg hs103_7_30, if_neg hs103_7_31, if_pos hs103_7_32]
                      exact ⟨rfl, rfl⟩
                    · skip
                      refine j_tableOut (tgt := 158) rfl (by omega) (by omega) (by omega) (by decide) ?_
                      refine j_ldc (v := -2000000000) rfl k_X11_136 ?_
                      refine j_iret rfl rfl ?_ rfl (Nat.le_refl _)
                      unfold FX11_ofRun
                      rw [if_neg hb1_1, if_pos hb9_1, if_neg hb26_1, if_pos hb32_1, if_neg hb53_2, if_pos hb59_2, if_pos hb91_4, if_neg hs103_7_30, if_neg hs103_7_31, if_neg hs103_7_32]
                      exact ⟨rfl, rfl⟩
              · skip
                refine j_iload_n rfl rfl ?_
                refine j_bipush rfl (by decide) ?_
                refine j_icmp_ge (tgt := 102) rfl (by decide) (by omega) (by omega) (by omega) (by omega) (fun hb97_4 => ?_) (fun hb97_4 => ?_)
                · skip
                  refine j_iload_n rfl rfl ?_
                  by_cases hs103_8_30 : what = 30
                  · skip
                    refine j_tableIn (tgt := 128) rfl (by omega) (by omega) (by omega) (by omega) (by rw [hs103_8_30]; rfl) (by decide) ?_
                    refine j_iload_n rfl rfl ?_
                    refine j_if_ne (tgt := 136) rfl (by decide) (by omega) (by omega) (fun hb129_8 => ?_) (fun hb129_8 => ?_)
                    · skip
                      refine j_iconst rfl ?_
                      refine j_iret rfl rfl ?_ rfl (Nat.le_refl _)
                      unfold FX11_ofRun
                      rw [if_neg hb1_1, if_pos hb9_1, if_neg hb26_1, if_pos hb32_1, if_neg hb53_2, if_pos hb59_2, if_neg hb91_4, if_pos hb97_4, if_pos hs103_8_30, if_pos hb129_8]
                      exact ⟨rfl, rfl⟩
                    · skip
                      refine j_iconst rfl ?_
                      refine j_goto (tgt := 137) rfl (by decide) ?_
                      refine j_iret rfl rfl ?_ rfl (Nat.le_refl _)
                      unfold FX11_ofRun
                      rw [if_neg hb1_1, if_pos hb9_1, if_neg hb26_1, if_pos hb32_1, if_neg hb53_2, if_pos hb59_2, if_neg hb91_4, if_pos hb97_4, if_pos hs103_8_30, if_neg (not_not_intro hb129_8)]
                      exact ⟨rfl, rfl⟩
                  · skip
                    by_cases hs103_8_31 : what = 31
                    · skip
                      refine j_tableIn (tgt := 138) rfl (by omega) (by omega) (by omega) (by omega) (by rw [hs103_8_31]; rfl) (by decide) ?_
                      refine j_aload_n rfl rfl ?_
                      refine j_getR (q := 24) rfl f_X11_65 rfl (hS.lt (by decide)) (hS.k (by decide) (by decide)) (hS.r (by decide)) ?_
                      refine j_getR (q := 28) rfl f_X11_219 rfl (hS.lt (by decide)) (hS.k (by decide) (by decide)) (hS.r (by decide)) ?_
                      refine j_iload_n rfl rfl ?_
                      refine j_iald (n := 6) rfl (hS.lt (by decide)) (hS.k (by decide) (by decide)) (hS.n (by decide) (by decide)) (by omega) (by omega) (by decide) ?_
                      have u146_8 := hI.a 28 (-1) 200 (by decide) box.toNat
                      refine j_iret rfl rfl ?_ rfl (Nat.le_refl _)
                      unfold FX11_ofRun
                      rw [if_neg hb1_1, if_pos hb9_1, if_neg hb26_1, if_pos hb32_1, if_neg hb53_2, if_pos hb59_2, if_neg hb91_4, if_pos hb97_4, if_neg hs103_8_30, if_pos hs103_8_31]
                      exact ⟨rfl, rfl⟩
                    · skip
                      by_cases hs103_8_32 : what = 32
                      · skip
                        refine j_tableIn (tgt := 148) rfl (by omega) (by omega) (by omega) (by omega) (by rw [hs103_8_32]; rfl) (by decide) ?_
                        refine j_aload_n rfl rfl ?_
                        refine j_getR (q := 24) rfl f_X11_65 rfl (hS.lt (by decide)) (hS.k (by decide) (by decide)) (hS.r (by decide)) ?_
                        refine j_getR (q := 29) rfl f_X11_222 rfl (hS.lt (by decide)) (hS.k (by decide) (by decide)) (hS.r (by decide)) ?_
                        refine j_iload_n rfl rfl ?_
                        refine j_iald (n := 6) rfl (hS.lt (by decide)) (hS.k (by decide) (by decide)) (hS.n (by decide) (by decide)) (by omega) (by omega) (by decide) ?_
                        have u156_8 := mi_rng m 29 box.toNat
                        refine j_iret rfl rfl ?_ rfl (Nat.le_refl _)
                        unfold FX11_ofRun
                        rw [if_neg hb1_1, if_pos hb9_1, if_neg hb26_1, if_pos hb32_1, if_neg hb53_2, if_pos hb59_2, if_neg hb91_4, if_pos hb97_4, if_neg hs103_8_30, if_neg hs103_8_31, if_pos hs103_8_32]
                        exact ⟨rfl, rfl⟩
                      · skip
                        refine j_tableOut (tgt := 158) rfl (by omega) (by omega) (by omega) (by decide) ?_
                        refine j_ldc (v := -2000000000) rfl k_X11_136 ?_
                        refine j_iret rfl rfl ?_ rfl (Nat.le_refl _)
                        unfold FX11_ofRun
                        rw [if_neg hb1_1, if_pos hb9_1, if_neg hb26_1, if_pos hb32_1, if_neg hb53_2, if_pos hb59_2, if_neg hb91_4, if_pos hb97_4, if_neg hs103_8_30, if_neg hs103_8_31, if_neg hs103_8_32]
                        exact ⟨rfl, rfl⟩
                · skip
                  refine j_iload_n rfl rfl ?_
                  refine j_iret rfl rfl ?_ rfl (Nat.le_refl _)
                  unfold FX11_ofRun
                  rw [if_neg hb1_1, if_pos hb9_1, if_neg hb26_1, if_pos hb32_1, if_neg hb53_2, if_pos hb59_2, if_neg hb91_4, if_neg hb97_4]
                  exact ⟨rfl, rfl⟩
            · skip
              refine j_iload_n rfl rfl ?_
              refine j_if_ne (tgt := 85) rfl (by decide) (by omega) (by omega) (fun hb63_2 => ?_) (fun hb63_2 => ?_)
              · skip
                refine j_ldc (v := -2000000000) rfl k_X11_136 ?_
                refine j_iret rfl rfl ?_ rfl (Nat.le_refl _)
                unfold FX11_ofRun
                rw [if_neg hb1_1, if_pos hb9_1, if_neg hb26_1, if_pos hb32_1, if_neg hb53_2, if_neg hb59_2, if_pos hb63_2]
                exact ⟨rfl, rfl⟩
              · skip
                refine j_aload_n rfl rfl ?_
                refine j_getR (q := 24) rfl f_X11_65 rfl (hS.lt (by decide)) (hS.k (by decide) (by decide)) (hS.r (by decide)) ?_
                refine j_getR (q := 26) rfl f_X11_216 rfl (hS.lt (by decide)) (hS.k (by decide) (by decide)) (hS.r (by decide)) ?_
                refine j_iload_n rfl rfl ?_
                refine j_iconst rfl ?_
                refine j_imul rfl ?_
                refine j_iload_n rfl rfl ?_
                refine j_iadd rfl ?_
                refine j_bipush rfl (by decide) ?_
                refine j_isub rfl ?_
                refine j_iald (n := 24) rfl (hS.lt (by decide)) (hS.k (by decide) (by decide)) (hS.n (by decide) (by decide)) (by omega) (by omega) (by decide) ?_
                have u81_2 := hI.a 26 (-1000000) 1000000 (by decide) (((box * 4) + what) - 10).toNat
                refine j_goto (tgt := 87) rfl (by decide) ?_
                refine j_iret rfl rfl ?_ rfl (Nat.le_refl _)
                unfold FX11_ofRun
                rw [if_neg hb1_1, if_pos hb9_1, if_neg hb26_1, if_pos hb32_1, if_neg hb53_2, if_neg hb59_2, if_neg (not_not_intro hb63_2)]
                exact ⟨rfl, rfl⟩
        · skip
          refine j_aload_n rfl rfl ?_
          refine j_getR (q := 24) rfl f_X11_65 rfl (hS.lt (by decide)) (hS.k (by decide) (by decide)) (hS.r (by decide)) ?_
          refine j_getR (q := 25) rfl f_X11_213 rfl (hS.lt (by decide)) (hS.k (by decide) (by decide)) (hS.r (by decide)) ?_
          refine j_iload_n rfl rfl ?_
          refine j_bipush rfl (by decide) ?_
          refine j_imul rfl ?_
          refine j_iload_n rfl rfl ?_
          refine j_iadd rfl ?_
          refine j_iald (n := 48) rfl (hS.lt (by decide)) (hS.k (by decide) (by decide)) (hS.n (by decide) (by decide)) (by omega) (by omega) (by decide) ?_
          have u48_1 := hI.a 25 (-1000000) 1000000 (by decide) ((box * 8) + what).toNat
          refine j_iret rfl rfl ?_ rfl (Nat.le_refl _)
          unfold FX11_ofRun
          rw [if_neg hb1_1, if_pos hb9_1, if_neg hb26_1, if_neg hb32_1]
          exact ⟨rfl, rfl⟩
    · skip
      refine j_ldc (v := -2000000000) rfl k_X11_136 ?_
      refine j_iret rfl rfl ?_ rfl (Nat.le_refl _)
      unfold FX11_ofRun
      rw [if_neg hb1_1, if_neg hb9_1]
      exact ⟨rfl, rfl⟩

def FX11_refusalOf (m : AM) (shelf : Int) (i : Int) : Int :=
  if 0 ≤ shelf ∧ shelf ≤ 5 then
    if mi m (68 + 3 * shelf.toNat) 2 < 0 ∧ mi m (68 + 3 * shelf.toNat) 3 = -1 then
      (-11)
    else
      if mi m (68 + 3 * shelf.toNat) 3 ≠ -1 then
        if i < 0 then
          (-13)
        else
          if i < (mi m (68 + 3 * shelf.toNat) 4) then
            0
          else
            (-13)
      else
        (-12)
  else
    (-1)
set_option maxRecDepth 20000 in
set_option maxHeartbeats 4000000 in
theorem ct_X11_refusalOf {G : QW} {m : AM} (hS : St m) (hI : IM m) {shelf : Int} {i : Int} (hshelf1 : -2147483648 ≤ shelf) (hshelf2 : shelf < 2147483648) (hi1 : -2147483648 ≤ i) (hi2 : i < 2147483648) : qM G mX11_refusalOf 1 0 0 [vR 0, vI shelf, vI i] m (fun r m' => r = some (vI (FX11_refusalOf m shelf i)) ∧ m' = m) := by
  refine qM.intro okX11_refusalOf (Nat.le_of_ble_eq_true rfl) ?_
  refine j_iload_n rfl rfl ?_
  refine j_callS (As := [_]) rfl okX11_isShelf c_X11_369 (ct_X11_isShelf (by omega) (by omega)) rfl rfl (Nat.le_of_ble_eq_true rfl) (by decide) (by decide) ?_
  rintro vq mq ⟨e1, e2⟩
  rw [e1, e2]
  clear e1 e2
  simp only [Option.toList_some, Option.toList_none, List.cons_append, List.nil_append]
  refine j_bif_ne (tgt := 9) rfl (by decide) (fun hb4_1 => ?_) (fun hb4_1 => ?_)
  · skip
    refine j_aload_n rfl rfl ?_
    refine j_getR (q := 5) rfl f_X11_30 rfl (hS.lt (by decide)) (hS.k (by decide) (by decide)) (hS.r (by decide)) ?_
    refine j_iload_n rfl rfl ?_
    have hq1 := hS.sh shelf (by omega) (by omega)
    refine j_aald (k := 19) (n := 6) (v := (68 + 3 * shelf.toNat)) rfl (hS.lt (by decide)) (hS.k (by decide) (by decide)) el19 (hS.n (by decide) (by decide)) (by omega) (by omega) (by decide) hq1.1 ?_
    refine j_astore_n rfl (by decide) ?_
    refine j_aload_n rfl rfl ?_
    refine j_callV (ci := 7) rfl okX7_isEmpty c_X11_173 (ct_X7_isEmpty hq1.2  ) rfl rfl hq1.2.1 hq1.2.2.1 (by decide) rfl (Nat.le_of_ble_eq_true rfl) (by decide) (by decide) ?_
    rintro vq mq ⟨e1, e2⟩
    rw [e1, e2]
    clear e1 e2
    simp only [Option.toList_some, Option.toList_none, List.cons_append, List.nil_append]
    refine j_bif_eq (tgt := 26) rfl (by decide) (fun hb20_1 => ?_) (fun hb20_1 => ?_)
    · skip
      refine j_aload_n rfl rfl ?_
      refine j_callV (ci := 7) rfl okX7_holdsRow c_X11_395 (ct_X7_holdsRow hq1.2  ) rfl rfl hq1.2.1 hq1.2.2.1 (by decide) rfl (Nat.le_of_ble_eq_true rfl) (by decide) (by decide) ?_
      rintro vq mq ⟨e1, e2⟩
      rw [e1, e2]
      clear e1 e2
      simp only [Option.toList_some, Option.toList_none, List.cons_append, List.nil_append]
      refine j_bif_ne (tgt := 36) rfl (by decide) (fun hb30_1 => ?_) (fun hb30_1 => ?_)
      · skip
        refine j_iload_n rfl rfl ?_
        refine j_if_lt (tgt := 48) rfl (by decide) (by omega) (by omega) (fun hb37_1 => ?_) (fun hb37_1 => ?_)
        · skip
          refine j_bipush rfl (by decide) ?_
          refine j_goto (tgt := 54) rfl (by decide) ?_
          refine j_iret rfl rfl ?_ rfl (Nat.le_refl _)
          unfold FX11_refusalOf
          rw [if_pos hb4_1, if_neg hb20_1, if_pos hb30_1, if_pos hb37_1]
          exact ⟨rfl, rfl⟩
        · skip
          refine j_iload_n rfl rfl ?_
          refine j_aload_n rfl rfl ?_
          refine j_getI rfl f_X11_417 rfl hq1.2.1 hq1.2.2.1 ?_
          have u42_1 := mi_rng m (68 + 3 * shelf.toNat) 4
          refine j_icmp_lt (tgt := 53) rfl (by decide) (by omega) (by omega) (by omega) (by omega) (fun hb45_1 => ?_) (fun hb45_1 => ?_)
          · skip
            refine j_iconst rfl ?_
            refine j_iret rfl rfl ?_ rfl (Nat.le_refl _)
            unfold FX11_refusalOf
            rw [if_pos hb4_1, if_neg hb20_1, if_pos hb30_1, if_neg hb37_1, if_pos hb45_1]
            exact ⟨rfl, rfl⟩
          · skip
            refine j_bipush rfl (by decide) ?_
            refine j_goto (tgt := 54) rfl (by decide) ?_
            refine j_iret rfl rfl ?_ rfl (Nat.le_refl _)
            unfold FX11_refusalOf
            rw [if_pos hb4_1, if_neg hb20_1, if_pos hb30_1, if_neg hb37_1, if_neg hb45_1]
            exact ⟨rfl, rfl⟩
      · skip
        refine j_bipush rfl (by decide) ?_
        refine j_iret rfl rfl ?_ rfl (Nat.le_refl _)
        unfold FX11_refusalOf
        rw [if_pos hb4_1, if_neg hb20_1, if_neg hb30_1]
        exact ⟨rfl, rfl⟩
    · skip
      refine j_bipush rfl (by decide) ?_
      refine j_iret rfl rfl ?_ rfl (Nat.le_refl _)
      unfold FX11_refusalOf
      rw [if_pos hb4_1, if_pos hb20_1]
      exact ⟨rfl, rfl⟩
  · skip
    refine j_iconst rfl ?_
    refine j_iret rfl rfl ?_ rfl (Nat.le_refl _)
    unfold FX11_refusalOf
    rw [if_neg hb4_1]
    exact ⟨rfl, rfl⟩

set_option maxRecDepth 20000 in
set_option maxHeartbeats 4000000 in
theorem ct_X11_isLine {G : QW} {m : AM} (hS : St m) (hI : IM m) {b : Int} {l : Int} (hb1 : -2147483648 ≤ b) (hb2 : b < 2147483648) (hl1 : -2147483648 ≤ l) (hl2 : l < 2147483648) (hX : HX m) : qM G mX11_isLine 1 0 0 [vR 0, vI b, vI l] m (fun r m' => r = some (vI (if (0 ≤ b ∧ b < mi m 0 16) ∧ 0 ≤ l ∧ l < mi m (pg m b) 6 then 1 else 0)) ∧ m' = m) := by
  refine qM.intro okX11_isLine (Nat.le_of_ble_eq_true rfl) ?_
  refine j_aload_n rfl rfl ?_
  refine j_iload_n rfl rfl ?_
  refine j_callV (ci := 11) rfl okX11_isBox c_X11_119 (ct_X11_isBox hS hI (by omega) (by omega)) rfl rfl (hS.lt (by decide)) (hS.k (by decide) (by decide)) (by decide) rfl (Nat.le_of_ble_eq_true rfl) (by decide) (by decide) ?_
  rintro vq mq ⟨e1, e2⟩
  rw [e1, e2]
  clear e1 e2
  simp only [Option.toList_some, Option.toList_none, List.cons_append, List.nil_append]
  have w1 := hI.s 0 16 (0) 6 (by decide)
  refine j_bif_eq (tgt := 32) rfl (by decide) (fun hb5_1 => ?_) (fun hb5_1 => ?_)
  · skip
    refine j_iconst rfl ?_
    refine j_zret rfl rfl (by decide) ?_ rfl (Nat.le_refl _)
    exact ⟨by first | (rw [if_pos (by omega)]; done) | (rw [if_neg (by omega)]; done) | (exfalso; omega), rfl⟩
  · skip
    refine j_iload_n rfl rfl ?_
    refine j_if_lt (tgt := 32) rfl (by decide) (by omega) (by omega) (fun hb9_1 => ?_) (fun hb9_1 => ?_)
    · skip
      refine j_iconst rfl ?_
      refine j_zret rfl rfl (by decide) ?_ rfl (Nat.le_refl _)
      exact ⟨by first | (rw [if_pos (by omega)]; done) | (rw [if_neg (by omega)]; done) | (exfalso; omega), rfl⟩
    · skip
      refine j_iload_n rfl rfl ?_
      refine j_aload_n rfl rfl ?_
      refine j_getR (q := 3) rfl f_X11_18 rfl (hS.lt (by decide)) (hS.k (by decide) (by decide)) (hS.r (by decide)) ?_
      refine j_iload_n rfl rfl ?_
      have hq1 := hX b (by omega) (by omega)
      have hq1r := hq1.2.2.2.2
      refine j_aald (k := 17) (n := 6) (v := (bx m b)) rfl (hS.lt (by decide)) (hS.k (by decide) (by decide)) el17 (hS.n (by decide) (by decide)) (by omega) (by omega) (by decide) hq1.1 ?_
      refine j_getR (q := (pg m b)) rfl f_X11_127 rfl hq1.2.1.1 hq1.2.1.2.1 hq1.2.2.1 ?_
      refine j_getI rfl f_X11_130 rfl hq1.2.2.2.1.1 hq1.2.2.2.1.2.1 ?_
      have u22_1 := mi_rng m (pg m b) 6
      refine j_icmp_ge (tgt := 32) rfl (by decide) (by omega) (by omega) (by omega) (by omega) (fun hb25_1 => ?_) (fun hb25_1 => ?_)
      · skip
        refine j_iconst rfl ?_
        refine j_zret rfl rfl (by decide) ?_ rfl (Nat.le_refl _)
        exact ⟨by first | (rw [if_pos (by omega)]; done) | (rw [if_neg (by omega)]; done) | (exfalso; omega), rfl⟩
      · skip
        refine j_iconst rfl ?_
        refine j_goto (tgt := 33) rfl (by decide) ?_
        refine j_zret rfl rfl (by decide) ?_ rfl (Nat.le_refl _)
        exact ⟨by first | (rw [if_pos (by omega)]; done) | (rw [if_neg (by omega)]; done) | (exfalso; omega), rfl⟩

set_option maxRecDepth 20000 in
set_option maxHeartbeats 4000000 in
theorem ct_X11_isTwin {G : QW} {m : AM} (hS : St m) (hI : IM m) {b : Int} (hb1 : -2147483648 ≤ b) (hb2 : b < 2147483648) (hX : HX m) : qM G mX11_isTwin 1 0 0 [vR 0, vI b] m (fun r m' => r = some (vI (if (0 ≤ b ∧ b < mi m 0 16) ∧ mi m (bx m b) 1 = 1 then 1 else 0)) ∧ m' = m) := by
  refine qM.intro okX11_isTwin (Nat.le_of_ble_eq_true rfl) ?_
  refine j_aload_n rfl rfl ?_
  refine j_iload_n rfl rfl ?_
  refine j_callV (ci := 11) rfl okX11_isBox c_X11_119 (ct_X11_isBox hS hI (by omega) (by omega)) rfl rfl (hS.lt (by decide)) (hS.k (by decide) (by decide)) (by decide) rfl (Nat.le_of_ble_eq_true rfl) (by decide) (by decide) ?_
  rintro vq mq ⟨e1, e2⟩
  rw [e1, e2]
  clear e1 e2
  simp only [Option.toList_some, Option.toList_none, List.cons_append, List.nil_append]
  have w1 := hI.s 0 16 (0) 6 (by decide)
  refine j_bif_eq (tgt := 25) rfl (by decide) (fun hb5_1 => ?_) (fun hb5_1 => ?_)
  · skip
    refine j_iconst rfl ?_
    refine j_zret rfl rfl (by decide) ?_ rfl (Nat.le_refl _)
    exact ⟨by first | (rw [if_pos (by omega)]; done) | (rw [if_neg (by omega)]; done) | (exfalso; omega), rfl⟩
  · skip
    refine j_aload_n rfl rfl ?_
    refine j_getR (q := 3) rfl f_X11_18 rfl (hS.lt (by decide)) (hS.k (by decide) (by decide)) (hS.r (by decide)) ?_
    refine j_iload_n rfl rfl ?_
    have hq1 := hX b (by omega) (by omega)
    have hq1r := hq1.2.2.2.2
    refine j_aald (k := 17) (n := 6) (v := (bx m b)) rfl (hS.lt (by decide)) (hS.k (by decide) (by decide)) el17 (hS.n (by decide) (by decide)) (by omega) (by omega) (by decide) hq1.1 ?_
    refine j_getI rfl f_X11_359 rfl hq1.2.1.1 hq1.2.1.2.1 ?_
    have u14_1 := mi_rng m (bx m b) 1
    refine j_iconst rfl ?_
    refine j_icmp_ne (tgt := 25) rfl (by decide) (by omega) (by omega) (by omega) (by omega) (fun hb18_1 => ?_) (fun hb18_1 => ?_)
    · skip
      refine j_iconst rfl ?_
      refine j_zret rfl rfl (by decide) ?_ rfl (Nat.le_refl _)
      exact ⟨by first | (rw [if_pos (by omega)]; done) | (rw [if_neg (by omega)]; done) | (exfalso; omega), rfl⟩
    · skip
      refine j_iconst rfl ?_
      refine j_goto (tgt := 26) rfl (by decide) ?_
      refine j_zret rfl rfl (by decide) ?_ rfl (Nat.le_refl _)
      exact ⟨by first | (rw [if_pos (by omega)]; done) | (rw [if_neg (by omega)]; done) | (exfalso; omega), rfl⟩

def FX11_line (m : AM) (box : Int) (line : Int) (what : Int) : Int :=
  if (0 ≤ box ∧ box < mi m 0 16) ∧ 0 ≤ line ∧ line < mi m (pg m box) 6 then
    if what = 0 then
      z_iand (z_ishr (mi m (pg m box) 7) line) 1
    else
      if what = 1 then
        if mi m ((pg m box) + 2) line.toNat < mi m ((pg m box) + 3) line.toNat then
          1
        else
          0
      else
        if what = 2 then
          z_iand (z_ishr (mi m (pg m box) 8) line) 1
        else
          if what = 3 then
            mi m ((pg m box) + 5) line.toNat
          else
            (-1)
  else
    (-1)
set_option maxRecDepth 20000 in
set_option maxHeartbeats 4000000 in
theorem ct_X11_line {G : QW} {m : AM} (hS : St m) (hI : IM m) {box : Int} {line : Int} {what : Int} (hbox1 : -2147483648 ≤ box) (hbox2 : box < 2147483648) (hline1 : -2147483648 ≤ line) (hline2 : line < 2147483648) (hwhat1 : -2147483648 ≤ what) (hwhat2 : what < 2147483648) (hX : HX m) : qM G mX11_line 2 0 0 [vR 0, vI box, vI line, vI what] m (fun r m' => r = some (vI (FX11_line m box line what)) ∧ m' = m) := by
  refine qM.intro okX11_line (Nat.le_of_ble_eq_true rfl) ?_
  refine j_aload_n rfl rfl ?_
  refine j_iload_n rfl rfl ?_
  refine j_iload_n rfl rfl ?_
  refine j_callV (ci := 11) rfl okX11_isLine c_X11_140 (ct_X11_isLine hS hI (by omega) (by omega) (by omega) (by omega) hX) rfl rfl (hS.lt (by decide)) (hS.k (by decide) (by decide)) (by decide) rfl (Nat.le_of_ble_eq_true rfl) (by decide) (by decide) ?_
  rintro vq mq ⟨e1, e2⟩
  rw [e1, e2]
  clear e1 e2
  simp only [Option.toList_some, Option.toList_none, List.cons_append, List.nil_append]
  have w1 := hI.s 0 16 (0) 6 (by decide)
  refine j_bif_ne (tgt := 11) rfl (by decide) (fun hb6_1 => ?_) (fun hb6_1 => ?_)
  · skip
    refine j_aload_n rfl rfl ?_
    refine j_getR (q := 3) rfl f_X11_18 rfl (hS.lt (by decide)) (hS.k (by decide) (by decide)) (hS.r (by decide)) ?_
    refine j_iload_n rfl rfl ?_
    have hq1 := hX box (by omega) (by omega)
    have hq1r := hq1.2.2.2.2
    refine j_aald (k := 17) (n := 6) (v := (bx m box)) rfl (hS.lt (by decide)) (hS.k (by decide) (by decide)) el17 (hS.n (by decide) (by decide)) (by omega) (by omega) (by decide) hq1.1 ?_
    refine j_getR (q := (pg m box)) rfl f_X11_127 rfl hq1.2.1.1 hq1.2.1.2.1 hq1.2.2.1 ?_
    refine j_astore rfl (by decide) ?_
    refine j_iload_n rfl rfl ?_
    by_cases hs23_1_0 : what = 0
    · skip
      refine j_tableIn (tgt := 52) rfl (by omega) (by omega) (by omega) (by omega) (by rw [hs23_1_0]; rfl) (by decide) ?_
      refine j_aload rfl rfl ?_
      refine j_getI rfl f_X11_144 rfl hq1.2.2.2.1.1 hq1.2.2.2.1.2.1 ?_
      have u54_1 := mi_rng m (pg m box) 7
      refine j_iload_n rfl rfl ?_
      refine j_ishr rfl ?_
      have z58_1 := z_ishr_rng (mi m (pg m box) 7) line
      refine j_iconst rfl ?_
      refine j_iand rfl ?_
      have z60_1 := z_iand_rng (z_ishr (mi m (pg m box) 7) line) 1
      refine j_iret rfl rfl ?_ rfl (Nat.le_refl _)
      unfold FX11_line
      rw [if_pos hb6_1, if_pos hs23_1_0]
      exact ⟨rfl, rfl⟩
    · skip
      by_cases hs23_1_1 : what = 1
      · skip
        refine j_tableIn (tgt := 62) rfl (by omega) (by omega) (by omega) (by omega) (by rw [hs23_1_1]; rfl) (by decide) ?_
        refine j_aload rfl rfl ?_
        refine j_iload_n rfl rfl ?_
        refine j_callV (ci := 5) rfl okX5_hasTest c_X11_147 (ct_X5_hasTest hq1.2.2.2.1 (by omega) (by omega) (by omega) (by omega)) rfl rfl hq1.2.2.2.1.1 hq1.2.2.2.1.2.1 (by decide) rfl (Nat.le_of_ble_eq_true rfl) (by decide) (by decide) ?_
        rintro vq mq ⟨e1, e2⟩
        rw [e1, e2]
        clear e1 e2
        simp only [Option.toList_some, Option.toList_none, List.cons_append, List.nil_append]
        refine j_bif_eq (tgt := 75) rfl (by decide) (fun hb68_1 => ?_) (fun hb68_1 => ?_)
        · skip
          refine j_iconst rfl ?_
          refine j_iret rfl rfl ?_ rfl (Nat.le_refl _)
          unfold FX11_line
          rw [if_pos hb6_1, if_neg hs23_1_0, if_pos hs23_1_1, if_neg hb68_1]
          exact ⟨rfl, rfl⟩
        · skip
          refine j_iconst rfl ?_
          refine j_goto (tgt := 76) rfl (by decide) ?_
          refine j_iret rfl rfl ?_ rfl (Nat.le_refl _)
          unfold FX11_line
          rw [if_pos hb6_1, if_neg hs23_1_0, if_pos hs23_1_1, if_pos hb68_1]
          exact ⟨rfl, rfl⟩
      · skip
        by_cases hs23_1_2 : what = 2
        · skip
          refine j_tableIn (tgt := 77) rfl (by omega) (by omega) (by omega) (by omega) (by rw [hs23_1_2]; rfl) (by decide) ?_
          refine j_aload rfl rfl ?_
          refine j_getI rfl f_X11_150 rfl hq1.2.2.2.1.1 hq1.2.2.2.1.2.1 ?_
          have u79_1 := mi_rng m (pg m box) 8
          refine j_iload_n rfl rfl ?_
          refine j_ishr rfl ?_
          have z83_1 := z_ishr_rng (mi m (pg m box) 8) line
          refine j_iconst rfl ?_
          refine j_iand rfl ?_
          have z85_1 := z_iand_rng (z_ishr (mi m (pg m box) 8) line) 1
          refine j_iret rfl rfl ?_ rfl (Nat.le_refl _)
          unfold FX11_line
          rw [if_pos hb6_1, if_neg hs23_1_0, if_neg hs23_1_1, if_pos hs23_1_2]
          exact ⟨rfl, rfl⟩
        · skip
          by_cases hs23_1_3 : what = 3
          · skip
            refine j_tableIn (tgt := 87) rfl (by omega) (by omega) (by omega) (by omega) (by rw [hs23_1_3]; rfl) (by decide) ?_
            refine j_aload rfl rfl ?_
            refine j_getR (q := ((pg m box) + 5)) rfl f_X11_153 rfl hq1.2.2.2.1.1 hq1.2.2.2.1.2.1 (hq1.2.2.2.1.q 4 5 13 12 (by decide)).1 ?_
            refine j_iload_n rfl rfl ?_
            refine j_iald (n := 12) rfl (hq1.2.2.2.1.q 4 5 13 12 (by decide)).2.1 (hq1.2.2.2.1.q 4 5 13 12 (by decide)).2.2.1 (hq1.2.2.2.1.q 4 5 13 12 (by decide)).2.2.2 (by omega) (by omega) (by decide) ?_
            have u93_1 := mi_rng m ((pg m box) + 5) line.toNat
            refine j_iret rfl rfl ?_ rfl (Nat.le_refl _)
            unfold FX11_line
            rw [if_pos hb6_1, if_neg hs23_1_0, if_neg hs23_1_1, if_neg hs23_1_2, if_pos hs23_1_3]
            exact ⟨rfl, rfl⟩
          · skip
            refine j_tableOut (tgt := 95) rfl (by omega) (by omega) (by omega) (by decide) ?_
            refine j_iconst rfl ?_
            refine j_iret rfl rfl ?_ rfl (Nat.le_refl _)
            unfold FX11_line
            rw [if_pos hb6_1, if_neg hs23_1_0, if_neg hs23_1_1, if_neg hs23_1_2, if_neg hs23_1_3]
            exact ⟨rfl, rfl⟩
  · skip
    refine j_iconst rfl ?_
    refine j_iret rfl rfl ?_ rfl (Nat.le_refl _)
    unfold FX11_line
    rw [if_neg hb6_1]
    exact ⟨rfl, rfl⟩

def FX11_watch (m : AM) (box : Int) (line : Int) (is : Int) : Int × AM :=
  if (0 ≤ box ∧ box < mi m 0 16) ∧ 0 ≤ line ∧ line < mi m (pg m box) 6 then
    if is < 0 then
      ((-1), m)
    else
      if is ≤ 1 then
        (z_iand (z_ishr (mi m (pg m box) 8) line) 1, (si m (pg m box) 8 (z_ior (z_iand (mi m (pg m box) 8) (z_ixor (z_ishl 1 line) (-1))) (z_ishl is line))))
      else
        ((-1), m)
  else
    ((-1), m)
set_option maxRecDepth 20000 in
set_option maxHeartbeats 4000000 in
theorem ct_X11_watch {G : QW} {m : AM} (hS : St m) (hI : IM m) {box : Int} {line : Int} {is : Int} (hbox1 : -2147483648 ≤ box) (hbox2 : box < 2147483648) (hline1 : -2147483648 ≤ line) (hline2 : line < 2147483648) (his1 : -2147483648 ≤ is) (his2 : is < 2147483648) (hX : HX m) : qM G mX11_watch 2 0 0 [vR 0, vI box, vI line, vI is] m (fun r m' => r = some (vI (FX11_watch m box line is).1) ∧ m' = (FX11_watch m box line is).2) := by
  refine qM.intro okX11_watch (Nat.le_of_ble_eq_true rfl) ?_
  refine j_aload_n rfl rfl ?_
  refine j_iload_n rfl rfl ?_
  refine j_iload_n rfl rfl ?_
  refine j_callV (ci := 11) rfl okX11_isLine c_X11_140 (ct_X11_isLine hS hI (by omega) (by omega) (by omega) (by omega) hX) rfl rfl (hS.lt (by decide)) (hS.k (by decide) (by decide)) (by decide) rfl (Nat.le_of_ble_eq_true rfl) (by decide) (by decide) ?_
  rintro vq mq ⟨e1, e2⟩
  rw [e1, e2]
  clear e1 e2
  simp only [Option.toList_some, Option.toList_none, List.cons_append, List.nil_append]
  have w1 := hI.s 0 16 (0) 6 (by decide)
  refine j_bif_eq (tgt := 18) rfl (by decide) (fun hb6_1 => ?_) (fun hb6_1 => ?_)
  · skip
    refine j_iconst rfl ?_
    refine j_iret rfl rfl ?_ rfl (Nat.le_refl _)
    unfold FX11_watch
    rw [if_neg hb6_1]
    exact ⟨rfl, rfl⟩
  · skip
    refine j_iload_n rfl rfl ?_
    refine j_if_lt (tgt := 18) rfl (by decide) (by omega) (by omega) (fun hb10_1 => ?_) (fun hb10_1 => ?_)
    · skip
      refine j_iconst rfl ?_
      refine j_iret rfl rfl ?_ rfl (Nat.le_refl _)
      unfold FX11_watch
      rw [if_pos hb6_1, if_pos hb10_1]
      exact ⟨rfl, rfl⟩
    · skip
      refine j_iload_n rfl rfl ?_
      refine j_iconst rfl ?_
      refine j_icmp_le (tgt := 20) rfl (by decide) (by omega) (by omega) (by omega) (by omega) (fun hb15_1 => ?_) (fun hb15_1 => ?_)
      · skip
        refine j_aload_n rfl rfl ?_
        refine j_getR (q := 3) rfl f_X11_18 rfl (hS.lt (by decide)) (hS.k (by decide) (by decide)) (hS.r (by decide)) ?_
        refine j_iload_n rfl rfl ?_
        have hq1 := hX box (by omega) (by omega)
        have hq1r := hq1.2.2.2.2
        refine j_aald (k := 17) (n := 6) (v := (bx m box)) rfl (hS.lt (by decide)) (hS.k (by decide) (by decide)) el17 (hS.n (by decide) (by decide)) (by omega) (by omega) (by decide) hq1.1 ?_
        refine j_getR (q := (pg m box)) rfl f_X11_127 rfl hq1.2.1.1 hq1.2.1.2.1 hq1.2.2.1 ?_
        refine j_astore rfl (by decide) ?_
        refine j_aload rfl rfl ?_
        refine j_getI rfl f_X11_150 rfl hq1.2.2.2.1.1 hq1.2.2.2.1.2.1 ?_
        have u33_1 := mi_rng m (pg m box) 8
        refine j_iload_n rfl rfl ?_
        refine j_ishr rfl ?_
        have z37_1 := z_ishr_rng (mi m (pg m box) 8) line
        refine j_iconst rfl ?_
        refine j_iand rfl ?_
        have z39_1 := z_iand_rng (z_ishr (mi m (pg m box) 8) line) 1
        refine j_istore rfl (by decide) ?_
        refine j_aload rfl rfl ?_
        refine j_aload rfl rfl ?_
        refine j_getI rfl f_X11_150 rfl hq1.2.2.2.1.1 hq1.2.2.2.1.2.1 ?_
        have u46_1 := mi_rng m (pg m box) 8
        refine j_iconst rfl ?_
        refine j_iload_n rfl rfl ?_
        refine j_ishl rfl ?_
        have z51_1 := z_ishl_rng 1 line
        refine j_iconst rfl ?_
        refine j_ixor rfl ?_
        have z53_1 := z_ixor_rng (z_ishl 1 line) (-1)
        refine j_iand rfl ?_
        have z54_1 := z_iand_rng (mi m (pg m box) 8) (z_ixor (z_ishl 1 line) (-1))
        refine j_iload_n rfl rfl ?_
        refine j_iload_n rfl rfl ?_
        refine j_ishl rfl ?_
        have z57_1 := z_ishl_rng is line
        refine j_ior rfl ?_
        have z58_1 := z_ior_rng (z_iand (mi m (pg m box) 8) (z_ixor (z_ishl 1 line) (-1))) (z_ishl is line)
        refine j_putI rfl f_X11_150 rfl hq1.2.2.2.1.1 hq1.2.2.2.1.2.1 ?_
        refine j_iload rfl rfl ?_
        refine j_iret rfl rfl ?_ rfl (Nat.le_refl _)
        unfold FX11_watch
        rw [if_pos hb6_1, if_neg hb10_1, if_pos hb15_1]
        exact ⟨rfl, rfl⟩
      · skip
        refine j_iconst rfl ?_
        refine j_iret rfl rfl ?_ rfl (Nat.le_refl _)
        unfold FX11_watch
        rw [if_pos hb6_1, if_neg hb10_1, if_neg hb15_1]
        exact ⟨rfl, rfl⟩

def FX11_felt (m : AM) (fk : Int) (start : Int) (step : Int) (cap : Int) : Int × AM :=
  if 0 ≤ fk ∧ (0 ≤ fk / 10 ∧ fk / 10 < mi m 0 17) ∧ fk % 10 ≤ 2 then
    if -99999 ≤ start ∧ start ≤ 99999 then
      if -999 ≤ step ∧ step ≤ 999 then
        if cap < 0 then
          ((-1), m)
        else
          if cap ≤ 99999 then
            (1, (FX3_tell m (fl m (fk / 10)) (fk % 10) start step cap))
          else
            ((-1), m)
      else
        ((-1), m)
    else
      ((-1), m)
  else
    ((-1), m)
set_option maxRecDepth 20000 in
set_option maxHeartbeats 4000000 in
theorem ct_X11_felt {G : QW} {m : AM} (hS : St m) (hI : IM m) {fk : Int} {start : Int} {step : Int} {cap : Int} (hfk1 : -2147483648 ≤ fk) (hfk2 : fk < 2147483648) (hstart1 : -2147483648 ≤ start) (hstart2 : start < 2147483648) (hstep1 : -2147483648 ≤ step) (hstep2 : step < 2147483648) (hcap1 : -2147483648 ≤ cap) (hcap2 : cap < 2147483648) (hFl : HF m) : qM G mX11_felt 2 0 0 [vR 0, vI fk, vI start, vI step, vI cap] m (fun r m' => r = some (vI (FX11_felt m fk start step cap).1) ∧ m' = (FX11_felt m fk start step cap).2) := by
  refine qM.intro okX11_felt (Nat.le_of_ble_eq_true rfl) ?_
  refine j_aload_n rfl rfl ?_
  refine j_iload_n rfl rfl ?_
  refine j_callV (ci := 11) rfl okX11_isFelt c_X11_159 (ct_X11_isFelt hS hI (by omega) (by omega)) rfl rfl (hS.lt (by decide)) (hS.k (by decide) (by decide)) (by decide) rfl (Nat.le_of_ble_eq_true rfl) (by decide) (by decide) ?_
  rintro vq mq ⟨e1, e2⟩
  rw [e1, e2]
  clear e1 e2
  simp only [Option.toList_some, Option.toList_none, List.cons_append, List.nil_append]
  have w1 := hI.s 0 17 (0) 8 (by decide)
  refine j_bif_eq (tgt := 27) rfl (by decide) (fun hb5_1 => ?_) (fun hb5_1 => ?_)
  · skip
    refine j_iconst rfl ?_
    refine j_iret rfl rfl ?_ rfl (Nat.le_refl _)
    unfold FX11_felt
    rw [if_neg hb5_1]
    exact ⟨rfl, rfl⟩
  · skip
    refine j_iload_n rfl rfl ?_
    refine j_ldc (v := 99999) rfl k_X11_162 ?_
    refine j_callS (As := [_, _]) rfl okX11_isWithin c_X11_163 (ct_X11_isWithin (by omega) (by omega) (by omega) (by omega) (by omega)) rfl rfl (Nat.le_of_ble_eq_true rfl) (by decide) (by decide) ?_
    rintro vq mq ⟨e1, e2⟩
    rw [e1, e2]
    clear e1 e2
    simp only [Option.toList_some, Option.toList_none, List.cons_append, List.nil_append]
    refine j_bif_eq (tgt := 27) rfl (by decide) (fun hb14_1 => ?_) (fun hb14_1 => ?_)
    · skip
      refine j_iconst rfl ?_
      refine j_iret rfl rfl ?_ rfl (Nat.le_refl _)
      unfold FX11_felt
      rw [if_pos hb5_1, if_neg hb14_1]
      exact ⟨rfl, rfl⟩
    · skip
      refine j_iload_n rfl rfl ?_
      refine j_sipush rfl (by decide) ?_
      refine j_callS (As := [_, _]) rfl okX11_isWithin c_X11_163 (ct_X11_isWithin (by omega) (by omega) (by omega) (by omega) (by omega)) rfl rfl (Nat.le_of_ble_eq_true rfl) (by decide) (by decide) ?_
      rintro vq mq ⟨e1, e2⟩
      rw [e1, e2]
      clear e1 e2
      simp only [Option.toList_some, Option.toList_none, List.cons_append, List.nil_append]
      refine j_bif_ne (tgt := 29) rfl (by decide) (fun hb24_1 => ?_) (fun hb24_1 => ?_)
      · skip
        refine j_iload rfl rfl ?_
        refine j_if_lt (tgt := 41) rfl (by decide) (by omega) (by omega) (fun hb31_1 => ?_) (fun hb31_1 => ?_)
        · skip
          refine j_iconst rfl ?_
          refine j_iret rfl rfl ?_ rfl (Nat.le_refl _)
          unfold FX11_felt
          rw [if_pos hb5_1, if_pos hb14_1, if_pos hb24_1, if_pos hb31_1]
          exact ⟨rfl, rfl⟩
        · skip
          refine j_iload rfl rfl ?_
          refine j_ldc (v := 99999) rfl k_X11_162 ?_
          refine j_icmp_le (tgt := 43) rfl (by decide) (by omega) (by omega) (by omega) (by omega) (fun hb38_1 => ?_) (fun hb38_1 => ?_)
          · skip
            refine j_aload_n rfl rfl ?_
            refine j_getR (q := 4) rfl f_X11_24 rfl (hS.lt (by decide)) (hS.k (by decide) (by decide)) (hS.r (by decide)) ?_
            refine j_iload_n rfl rfl ?_
            refine j_bipush rfl (by decide) ?_
            refine j_idivN rfl (by omega) (by omega) (by omega) (by omega) ?_
            have hq1 := hFl (fk / 10) (by omega) (by omega)
            refine j_aald (k := 18) (n := 8) (v := (fl m (fk / 10))) rfl (hS.lt (by decide)) (hS.k (by decide) (by decide)) el18 (hS.n (by decide) (by decide)) (by omega) (by omega) (by decide) hq1.1 ?_
            refine j_iload_n rfl rfl ?_
            refine j_bipush rfl (by decide) ?_
            refine j_iremN rfl (by omega) (by omega) (by omega) (by omega) ?_
            refine j_iload_n rfl rfl ?_
            refine j_iload_n rfl rfl ?_
            refine j_iload rfl rfl ?_
            refine j_callV (ci := 3) rfl okX3_tell c_X11_166 (ct_X3_tell (by omega) (by omega) (by omega) (by omega) (by omega) (by omega) (by omega) (by omega) hq1.2.1 (by omega) (by omega)) rfl rfl hq1.2.1.1 hq1.2.1.2.1 (by decide) rfl (Nat.le_of_ble_eq_true rfl) (by decide) (by decide) ?_
            rintro vq mq ⟨e1, e2⟩
            rw [e1, e2]
            clear e1 e2
            simp only [Option.toList_some, Option.toList_none, List.cons_append, List.nil_append]
            refine j_iconst rfl ?_
            refine j_iret rfl rfl ?_ rfl (Nat.le_refl _)
            unfold FX11_felt
            rw [if_pos hb5_1, if_pos hb14_1, if_pos hb24_1, if_neg hb31_1, if_pos hb38_1]
            exact ⟨rfl, rfl⟩
          · skip
            refine j_iconst rfl ?_
            refine j_iret rfl rfl ?_ rfl (Nat.le_refl _)
            unfold FX11_felt
            rw [if_pos hb5_1, if_pos hb14_1, if_pos hb24_1, if_neg hb31_1, if_neg hb38_1]
            exact ⟨rfl, rfl⟩
      · skip
        refine j_iconst rfl ?_
        refine j_iret rfl rfl ?_ rfl (Nat.le_refl _)
        unfold FX11_felt
        rw [if_pos hb5_1, if_pos hb14_1, if_neg hb24_1]
        exact ⟨rfl, rfl⟩

def FX11_twin (m : AM) (t : Int) (box : Int) : Int × AM :=
  if (0 ≤ t ∧ t < mi m 0 16) ∧ mi m (bx m t) 1 = 1 then
    if 0 ≤ box ∧ box < mi m 0 16 then
      if t ≠ box then
        (1, (si m (bx m t) 5 box))
      else
        ((-1), m)
    else
      ((-1), m)
  else
    ((-1), m)
set_option maxRecDepth 20000 in
set_option maxHeartbeats 4000000 in
theorem ct_X11_twin {G : QW} {m : AM} (hS : St m) (hI : IM m) {t : Int} {box : Int} (ht1 : -2147483648 ≤ t) (ht2 : t < 2147483648) (hbox1 : -2147483648 ≤ box) (hbox2 : box < 2147483648) (hX : HX m) : qM G mX11_twin 2 0 0 [vR 0, vI t, vI box] m (fun r m' => r = some (vI (FX11_twin m t box).1) ∧ m' = (FX11_twin m t box).2) := by
  refine qM.intro okX11_twin (Nat.le_of_ble_eq_true rfl) ?_
  refine j_aload_n rfl rfl ?_
  refine j_iload_n rfl rfl ?_
  refine j_callV (ci := 11) rfl okX11_isTwin c_X11_295 (ct_X11_isTwin hS hI (by omega) (by omega) hX) rfl rfl (hS.lt (by decide)) (hS.k (by decide) (by decide)) (by decide) rfl (Nat.le_of_ble_eq_true rfl) (by decide) (by decide) ?_
  rintro vq mq ⟨e1, e2⟩
  rw [e1, e2]
  clear e1 e2
  simp only [Option.toList_some, Option.toList_none, List.cons_append, List.nil_append]
  have w1 := hI.s 0 16 (0) 6 (by decide)
  refine j_bif_eq (tgt := 21) rfl (by decide) (fun hb5_1 => ?_) (fun hb5_1 => ?_)
  · skip
    refine j_iconst rfl ?_
    refine j_iret rfl rfl ?_ rfl (Nat.le_refl _)
    unfold FX11_twin
    rw [if_neg hb5_1]
    exact ⟨rfl, rfl⟩
  · skip
    refine j_aload_n rfl rfl ?_
    refine j_iload_n rfl rfl ?_
    refine j_callV (ci := 11) rfl okX11_isBox c_X11_119 (ct_X11_isBox hS hI (by omega) (by omega)) rfl rfl (hS.lt (by decide)) (hS.k (by decide) (by decide)) (by decide) rfl (Nat.le_of_ble_eq_true rfl) (by decide) (by decide) ?_
    rintro vq mq ⟨e1, e2⟩
    rw [e1, e2]
    clear e1 e2
    simp only [Option.toList_some, Option.toList_none, List.cons_append, List.nil_append]
    have w2 := hI.s 0 16 (0) 6 (by decide)
    refine j_bif_eq (tgt := 21) rfl (by decide) (fun hb13_1 => ?_) (fun hb13_1 => ?_)
    · skip
      refine j_iconst rfl ?_
      refine j_iret rfl rfl ?_ rfl (Nat.le_refl _)
      unfold FX11_twin
      rw [if_pos hb5_1, if_neg hb13_1]
      exact ⟨rfl, rfl⟩
    · skip
      refine j_iload_n rfl rfl ?_
      refine j_iload_n rfl rfl ?_
      refine j_icmp_ne (tgt := 23) rfl (by decide) (by omega) (by omega) (by omega) (by omega) (fun hb18_1 => ?_) (fun hb18_1 => ?_)
      · skip
        refine j_aload_n rfl rfl ?_
        refine j_getR (q := 3) rfl f_X11_18 rfl (hS.lt (by decide)) (hS.k (by decide) (by decide)) (hS.r (by decide)) ?_
        refine j_iload_n rfl rfl ?_
        have hq1 := hX t (by omega) (by omega)
        have hq1r := hq1.2.2.2.2
        refine j_aald (k := 17) (n := 6) (v := (bx m t)) rfl (hS.lt (by decide)) (hS.k (by decide) (by decide)) el17 (hS.n (by decide) (by decide)) (by omega) (by omega) (by decide) hq1.1 ?_
        refine j_iload_n rfl rfl ?_
        refine j_putI rfl f_X11_298 rfl hq1.2.1.1 hq1.2.1.2.1 ?_
        refine j_iconst rfl ?_
        refine j_iret rfl rfl ?_ rfl (Nat.le_refl _)
        unfold FX11_twin
        rw [if_pos hb5_1, if_pos hb13_1, if_pos hb18_1]
        exact ⟨rfl, rfl⟩
      · skip
        refine j_iconst rfl ?_
        refine j_iret rfl rfl ?_ rfl (Nat.le_refl _)
        unfold FX11_twin
        rw [if_pos hb5_1, if_pos hb13_1, if_neg (not_not_intro hb18_1)]
        exact ⟨rfl, rfl⟩

def FX11_keep (m : AM) (shelf : Int) (box : Int) : Int × AM :=
  if 0 ≤ shelf ∧ shelf ≤ 5 then
    if box = (-1) then
      (1, (FX7_holdBox m (68 + 3 * shelf.toNat) box))
    else
      if 0 ≤ box ∧ box < mi m 0 16 then
        (1, (FX7_holdBox m (68 + 3 * shelf.toNat) box))
      else
        ((-1), m)
  else
    ((-1), m)
set_option maxRecDepth 20000 in
set_option maxHeartbeats 4000000 in
theorem ct_X11_keep {G : QW} {m : AM} (hS : St m) (hI : IM m) {shelf : Int} {box : Int} (hshelf1 : -2147483648 ≤ shelf) (hshelf2 : shelf < 2147483648) (hbox1 : -2147483648 ≤ box) (hbox2 : box < 2147483648) : qM G mX11_keep 1 0 0 [vR 0, vI shelf, vI box] m (fun r m' => r = some (vI (FX11_keep m shelf box).1) ∧ m' = (FX11_keep m shelf box).2) := by
  refine qM.intro okX11_keep (Nat.le_of_ble_eq_true rfl) ?_
  refine j_iload_n rfl rfl ?_
  refine j_callS (As := [_]) rfl okX11_isShelf c_X11_369 (ct_X11_isShelf (by omega) (by omega)) rfl rfl (Nat.le_of_ble_eq_true rfl) (by decide) (by decide) ?_
  rintro vq mq ⟨e1, e2⟩
  rw [e1, e2]
  clear e1 e2
  simp only [Option.toList_some, Option.toList_none, List.cons_append, List.nil_append]
  refine j_bif_eq (tgt := 20) rfl (by decide) (fun hb4_1 => ?_) (fun hb4_1 => ?_)
  · skip
    refine j_iconst rfl ?_
    refine j_iret rfl rfl ?_ rfl (Nat.le_refl _)
    unfold FX11_keep
    rw [if_neg hb4_1]
    exact ⟨rfl, rfl⟩
  · skip
    refine j_iload_n rfl rfl ?_
    refine j_iconst rfl ?_
    refine j_icmp_eq (tgt := 22) rfl (by decide) (by omega) (by omega) (by omega) (by omega) (fun hb9_1 => ?_) (fun hb9_1 => ?_)
    · skip
      refine j_aload_n rfl rfl ?_
      refine j_getR (q := 5) rfl f_X11_30 rfl (hS.lt (by decide)) (hS.k (by decide) (by decide)) (hS.r (by decide)) ?_
      refine j_iload_n rfl rfl ?_
      have hq1 := hS.sh shelf (by omega) (by omega)
      refine j_aald (k := 19) (n := 6) (v := (68 + 3 * shelf.toNat)) rfl (hS.lt (by decide)) (hS.k (by decide) (by decide)) el19 (hS.n (by decide) (by decide)) (by omega) (by omega) (by decide) hq1.1 ?_
      refine j_iload_n rfl rfl ?_
      refine j_callV (ci := 7) rfl okX7_holdBox c_X11_372 (ct_X7_holdBox (by omega) (by omega) hq1.2 ) rfl rfl hq1.2.1 hq1.2.2.1 (by decide) rfl (Nat.le_of_ble_eq_true rfl) (by decide) (by decide) ?_
      rintro vq mq ⟨e1, e2⟩
      rw [e1, e2]
      clear e1 e2
      simp only [Option.toList_some, Option.toList_none, List.cons_append, List.nil_append]
      refine j_iconst rfl ?_
      refine j_iret rfl rfl ?_ rfl (Nat.le_refl _)
      unfold FX11_keep
      rw [if_pos hb4_1, if_pos hb9_1]
      exact ⟨rfl, rfl⟩
    · skip
      refine j_aload_n rfl rfl ?_
      refine j_iload_n rfl rfl ?_
      refine j_callV (ci := 11) rfl okX11_isBox c_X11_119 (ct_X11_isBox hS hI (by omega) (by omega)) rfl rfl (hS.lt (by decide)) (hS.k (by decide) (by decide)) (by decide) rfl (Nat.le_of_ble_eq_true rfl) (by decide) (by decide) ?_
      rintro vq mq ⟨e1, e2⟩
      rw [e1, e2]
      clear e1 e2
      simp only [Option.toList_some, Option.toList_none, List.cons_append, List.nil_append]
      have w1 := hI.s 0 16 (0) 6 (by decide)
      refine j_bif_ne (tgt := 22) rfl (by decide) (fun hb17_1 => ?_) (fun hb17_1 => ?_)
      · skip
        refine j_aload_n rfl rfl ?_
        refine j_getR (q := 5) rfl f_X11_30 rfl (hS.lt (by decide)) (hS.k (by decide) (by decide)) (hS.r (by decide)) ?_
        refine j_iload_n rfl rfl ?_
        have hq2 := hS.sh shelf (by omega) (by omega)
        refine j_aald (k := 19) (n := 6) (v := (68 + 3 * shelf.toNat)) rfl (hS.lt (by decide)) (hS.k (by decide) (by decide)) el19 (hS.n (by decide) (by decide)) (by omega) (by omega) (by decide) hq2.1 ?_
        refine j_iload_n rfl rfl ?_
        refine j_callV (ci := 7) rfl okX7_holdBox c_X11_372 (ct_X7_holdBox (by omega) (by omega) hq2.2 ) rfl rfl hq2.2.1 hq2.2.2.1 (by decide) rfl (Nat.le_of_ble_eq_true rfl) (by decide) (by decide) ?_
        rintro vq mq ⟨e1, e2⟩
        rw [e1, e2]
        clear e1 e2
        simp only [Option.toList_some, Option.toList_none, List.cons_append, List.nil_append]
        refine j_iconst rfl ?_
        refine j_iret rfl rfl ?_ rfl (Nat.le_refl _)
        unfold FX11_keep
        rw [if_pos hb4_1, if_neg hb9_1, if_pos hb17_1]
        exact ⟨rfl, rfl⟩
      · skip
        refine j_iconst rfl ?_
        refine j_iret rfl rfl ?_ rfl (Nat.le_refl _)
        unfold FX11_keep
        rw [if_pos hb4_1, if_neg hb9_1, if_neg hb17_1]
        exact ⟨rfl, rfl⟩

theorem FX11_refusalOf_rng (m : AM) (s i : Int) : -20 ≤ FX11_refusalOf m s i ∧ FX11_refusalOf m s i ≤ 0 := by
  unfold FX11_refusalOf
  repeat' split
  all_goals decide

theorem FX11_refusalOf_ok (m : AM) (s i : Int) : FX11_refusalOf m s i = 0 → 0 ≤ s ∧ s ≤ 5 ∧ mi m (68 + 3 * s.toNat) 3 ≠ -1 ∧ 0 ≤ i ∧ i < mi m (68 + 3 * s.toNat) 4 := by
  unfold FX11_refusalOf
  intro h
  repeat' split at h
  all_goals first | omega | (exfalso; revert h; decide)


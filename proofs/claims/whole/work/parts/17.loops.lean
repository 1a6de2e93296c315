set_option maxRecDepth 20000 in
set_option maxHeartbeats 4000000 in
theorem lp_X12_begin_2 {G : QW} {R : Room} {F : QFin} {cc cs : Nat} {m : AM} (hS : St m)  (hexit : qJ G mX12_begin R F 21 [(0, vR 86)] [] (fil m 106 0 48 0) cc cs) : ∀ (fuel : Nat) (s : Int), 0 ≤ s → s ≤ 48 → 48 - s < fuel → qJ G mX12_begin R F 2 [(0, vR 86), (1, vI s)] [] (fil m 106 0 s 0) cc cs := by
  intro fuel
  induction fuel with
  | zero => intro s h1 h2 h3; omega
  | succ fuel ih =>
    intro s hv1 hv2 hv3
    refine j_iload_n rfl rfl ?_
    refine j_bipush rfl (by decide) ?_
    refine j_icmp_ge (tgt := 21) rfl (by decide) (by omega) (by omega) (by omega) (by omega) (fun hb5_1 => ?_) (fun hb5_1 => ?_)
    · skip
      have he : s = 48 := by omega
      rw [he]
      refine j_loc (ls' := [(0, vR 86)]) rfl ?_
      exact hexit
    · skip
      refine j_aload_n rfl rfl ?_
      refine j_getR (q := 106) rfl f_X12_69 rfl (hS.lt (by decide)) (hS.k (by decide) (by decide)) (hS.r (by decide)) ?_
      refine j_iload_n rfl rfl ?_
      refine j_iconst rfl ?_
      refine j_iast (n := 48) rfl (hS.lt (by decide)) (hS.k (by decide) (by decide)) (hS.n (by decide) (by decide)) (by omega) (by omega) (by first | decide | omega) ?_
      refine j_iinc rfl rfl (by decide) ?_
      refine j_goto (tgt := 2) rfl (by decide) ?_
      refine j_loc (ls' := [(0, vR 86), (1, vI (s + 1))]) rfl ?_
      rw [fil_si (by decide) (by omega) (rfl)]
      exact ih (s + 1) (by omega) (by omega) (by omega)

set_option maxRecDepth 20000 in
set_option maxHeartbeats 4000000 in
theorem lp_X12_begin_23 {G : QW} {R : Room} {F : QFin} {cc cs : Nat} {m : AM} (hS : St m)  (hexit : qJ G mX12_begin R F 49 [(0, vR 86)] [] (fil (fil m 107 0 24 0) 108 0 24 0) cc cs) : ∀ (fuel : Nat) (s : Int), 0 ≤ s → s ≤ 24 → 24 - s < fuel → qJ G mX12_begin R F 23 [(0, vR 86), (1, vI s)] [] (fil (fil m 107 0 s 0) 108 0 s 0) cc cs := by
  intro fuel
  induction fuel with
  | zero => intro s h1 h2 h3; omega
  | succ fuel ih =>
    intro s hv1 hv2 hv3
    refine j_iload_n rfl rfl ?_
    refine j_bipush rfl (by decide) ?_
    refine j_icmp_ge (tgt := 49) rfl (by decide) (by omega) (by omega) (by omega) (by omega) (fun hb26_1 => ?_) (fun hb26_1 => ?_)
    · skip
      have he : s = 24 := by omega
      rw [he]
      refine j_loc (ls' := [(0, vR 86)]) rfl ?_
      exact hexit
    · skip
      refine j_aload_n rfl rfl ?_
      refine j_getR (q := 107) rfl f_X12_72 rfl (hS.lt (by decide)) (hS.k (by decide) (by decide)) (hS.r (by decide)) ?_
      refine j_iload_n rfl rfl ?_
      refine j_iconst rfl ?_
      refine j_iast (n := 24) rfl (hS.lt (by decide)) (hS.k (by decide) (by decide)) (hS.n (by decide) (by decide)) (by omega) (by omega) (by first | decide | omega) ?_
      refine j_aload_n rfl rfl ?_
      refine j_getR (q := 108) rfl f_X12_75 rfl (hS.lt (by decide)) (hS.k (by decide) (by decide)) (hS.r (by decide)) ?_
      refine j_iload_n rfl rfl ?_
      refine j_iconst rfl ?_
      refine j_iast (n := 24) rfl (hS.lt (by decide)) (hS.k (by decide) (by decide)) (hS.n (by decide) (by decide)) (by omega) (by omega) (by first | decide | omega) ?_
      refine j_iinc rfl rfl (by decide) ?_
      refine j_goto (tgt := 23) rfl (by decide) ?_
      refine j_loc (ls' := [(0, vR 86), (1, vI (s + 1))]) rfl ?_
      rw [si_fil (by decide), fil_si (by decide) (by omega) (rfl), fil_si (by decide) (by omega) (rfl)]
      exact ih (s + 1) (by omega) (by omega) (by omega)

set_option maxRecDepth 20000 in
set_option maxHeartbeats 4000000 in
theorem lp_X12_begin_51 {G : QW} {R : Room} {F : QFin} {cc cs : Nat} {m : AM} (hS : St m)  (hexit : qJ G mX12_begin R F 84 [(0, vR 86)] [] (fil (fil (fil m 111 0 6 0) 112 0 6 (-1)) 113 0 6 0) cc cs) : ∀ (fuel : Nat) (s : Int), 0 ≤ s → s ≤ 6 → 6 - s < fuel → qJ G mX12_begin R F 51 [(0, vR 86), (1, vI s)] [] (fil (fil (fil m 111 0 s 0) 112 0 s (-1)) 113 0 s 0) cc cs := by
  intro fuel
  induction fuel with
  | zero => intro s h1 h2 h3; omega
  | succ fuel ih =>
    intro s hv1 hv2 hv3
    refine j_iload_n rfl rfl ?_
    refine j_bipush rfl (by decide) ?_
    refine j_icmp_ge (tgt := 84) rfl (by decide) (by omega) (by omega) (by omega) (by omega) (fun hb54_1 => ?_) (fun hb54_1 => ?_)
    · skip
      have he : s = 6 := by omega
      rw [he]
      refine j_loc (ls' := [(0, vR 86)]) rfl ?_
      exact hexit
    · skip
      refine j_aload_n rfl rfl ?_
      refine j_getR (q := 111) rfl f_X12_84 rfl (hS.lt (by decide)) (hS.k (by decide) (by decide)) (hS.r (by decide)) ?_
      refine j_iload_n rfl rfl ?_
      refine j_iconst rfl ?_
      refine j_zast (n := 6) rfl (hS.lt (by decide)) (hS.k (by decide) (by decide)) (hS.n (by decide) (by decide)) (by omega) (by omega) (by first | decide | omega) (Or.inl rfl) ?_
      refine j_aload_n rfl rfl ?_
      refine j_getR (q := 112) rfl f_X12_87 rfl (hS.lt (by decide)) (hS.k (by decide) (by decide)) (hS.r (by decide)) ?_
      refine j_iload_n rfl rfl ?_
      refine j_iconst rfl ?_
      refine j_iast (n := 6) rfl (hS.lt (by decide)) (hS.k (by decide) (by decide)) (hS.n (by decide) (by decide)) (by omega) (by omega) (by first | decide | omega) ?_
      refine j_aload_n rfl rfl ?_
      refine j_getR (q := 113) rfl f_X12_90 rfl (hS.lt (by decide)) (hS.k (by decide) (by decide)) (hS.r (by decide)) ?_
      refine j_iload_n rfl rfl ?_
      refine j_iconst rfl ?_
      refine j_iast (n := 6) rfl (hS.lt (by decide)) (hS.k (by decide) (by decide)) (hS.n (by decide) (by decide)) (by omega) (by omega) (by first | decide | omega) ?_
      refine j_iinc rfl rfl (by decide) ?_
      refine j_goto (tgt := 51) rfl (by decide) ?_
      refine j_loc (ls' := [(0, vR 86), (1, vI (s + 1))]) rfl ?_
      rw [si_fil (by decide), si_fil (by decide), fil_si (by decide) (by omega) (rfl), si_fil (by decide), fil_si (by decide) (by omega) (rfl), fil_si (by decide) (by omega) (rfl)]
      exact ih (s + 1) (by omega) (by omega) (by omega)

def FX12_begin (m : AM) : AM :=
  (si (fil (fil (fil (fil (fil (fil m 106 0 48 0) 107 0 24 0) 108 0 24 0) 111 0 6 0) 112 0 6 (-1)) 113 0 6 0) 86 35 (-1))
set_option maxRecDepth 20000 in
set_option maxHeartbeats 4000000 in
theorem ct_X12_begin {G : QW} {m : AM} (hS : St m) (hI : IM m) : qM G mX12_begin 0 0 0 [vR 86] m (fun r m' => r = none ∧ m' = FX12_begin m) := by
  refine qM.intro okX12_begin (Nat.le_of_ble_eq_true rfl) ?_
  refine j_iconst rfl ?_
  refine j_istore_n rfl (by decide) ?_
  refine j_loc (ls' := [(0, vR 86), (1, vI 0)]) rfl ?_
  refine qJ_mem (m' := (fil m 106 0 0 0)) (by simp only [fil_0 _ _ _ (Int.le_refl _)]) ?_
  refine lp_X12_begin_2 (m := m) hS ?_ 49 0 (by decide) (by decide) (by decide)
  refine j_iconst rfl ?_
  refine j_istore_n rfl (by decide) ?_
  refine j_loc (ls' := [(0, vR 86), (1, vI 0)]) rfl ?_
  refine qJ_mem (m' := (fil (fil (fil m 106 0 48 0) 107 0 0 0) 108 0 0 0)) (by simp only [fil_0 _ _ _ (Int.le_refl _)]) ?_
  refine lp_X12_begin_23 (m := (fil m 106 0 48 0)) hS ?_ 25 0 (by decide) (by decide) (by decide)
  refine j_iconst rfl ?_
  refine j_istore_n rfl (by decide) ?_
  refine j_loc (ls' := [(0, vR 86), (1, vI 0)]) rfl ?_
  refine qJ_mem (m' := (fil (fil (fil (fil (fil (fil m 106 0 48 0) 107 0 24 0) 108 0 24 0) 111 0 0 0) 112 0 0 (-1)) 113 0 0 0)) (by simp only [fil_0 _ _ _ (Int.le_refl _)]) ?_
  refine lp_X12_begin_51 (m := (fil (fil (fil m 106 0 48 0) 107 0 24 0) 108 0 24 0)) hS ?_ 7 0 (by decide) (by decide) (by decide)
  refine j_aload_n rfl rfl ?_
  refine j_iconst rfl ?_
  refine j_putI rfl f_X12_352 rfl (hS.lt (by decide)) (hS.k (by decide) (by decide)) ?_
  refine j_vret rfl rfl ?_ rfl (Nat.le_refl _)
  unfold FX12_begin
  exact ⟨rfl, rfl⟩

set_option maxRecDepth 20000 in
set_option maxHeartbeats 4000000 in
theorem lp_X12_box_36 {G : QW} {R : Room} {F : QFin} {cc cs : Nat} {m : AM} (hS : St m) {k : Int} (hn0 : 0 ≤ mi m 86 1) (hn1 : mi m 86 1 ≤ 5) (hexit : qJ G mX12_box R F 64 [(0, vR 86), (1, vI k)] [] (fil m 88 (8 * mi m 86 1) (8 * mi m 86 1 + 8) 16) cc cs) : ∀ (fuel : Nat) (s : Int), 0 ≤ s → s ≤ 8 → 8 - s < fuel → qJ G mX12_box R F 36 [(0, vR 86), (1, vI k), (2, vI s)] [] (fil m 88 (8 * mi m 86 1) (8 * mi m 86 1 + s) 16) cc cs := by
  intro fuel
  induction fuel with
  | zero => intro s h1 h2 h3; omega
  | succ fuel ih =>
    intro s hv1 hv2 hv3
    refine j_iload_n rfl rfl ?_
    refine j_bipush rfl (by decide) ?_
    refine j_icmp_ge (tgt := 64) rfl (by decide) (by omega) (by omega) (by omega) (by omega) (fun hb39_1 => ?_) (fun hb39_1 => ?_)
    · skip
      have he : s = 8 := by omega
      rw [he]
      refine j_loc (ls' := [(0, vR 86), (1, vI k)]) rfl ?_
      exact hexit
    · skip
      refine j_aload_n rfl rfl ?_
      refine j_getR (q := 88) rfl f_X12_13 rfl (hS.lt (by decide)) (hS.k (by decide) (by decide)) (hS.r (by decide)) ?_
      refine j_bipush rfl (by decide) ?_
      refine j_aload_n rfl rfl ?_
      refine j_getI rfl f_X12_191 rfl (hS.lt (by decide)) (hS.k (by decide) (by decide)) ?_
      rw [show mi (fil m 88 (8 * mi m 86 1) (8 * mi m 86 1 + s) 16) 86 1 = mi m 86 1 from by simp [mi_si, mi_fil, mi_cpr, mi_sl, mi_sr]]
      have u49_1 := mi_rng m 86 1
      refine j_imul rfl ?_
      refine j_iload_n rfl rfl ?_
      refine j_iadd rfl ?_
      refine j_bipush rfl (by decide) ?_
      refine j_iast (n := 48) rfl (hS.lt (by decide)) (hS.k (by decide) (by decide)) (hS.n (by decide) (by decide)) (by omega) (by omega) (by first | decide | omega) ?_
      refine j_iinc rfl rfl (by decide) ?_
      refine j_goto (tgt := 36) rfl (by decide) ?_
      refine j_loc (ls' := [(0, vR 86), (1, vI k), (2, vI (s + 1))]) rfl ?_
      rw [fil_si (by omega) (by omega) (rfl), Int.add_assoc]
      exact ih (s + 1) (by omega) (by omega) (by omega)

set_option maxRecDepth 20000 in
set_option maxHeartbeats 4000000 in
theorem lp_X12_box_66 {G : QW} {R : Room} {F : QFin} {cc cs : Nat} {m : AM} (hS : St m) {k : Int} (hn0 : 0 ≤ mi m 86 1) (hn1 : mi m 86 1 ≤ 5) (hexit : qJ G mX12_box R F 91 [(0, vR 86), (1, vI k)] [] (fil m 89 (4 * mi m 86 1) (4 * mi m 86 1 + 4) (-1)) cc cs) : ∀ (fuel : Nat) (s : Int), 0 ≤ s → s ≤ 4 → 4 - s < fuel → qJ G mX12_box R F 66 [(0, vR 86), (1, vI k), (2, vI s)] [] (fil m 89 (4 * mi m 86 1) (4 * mi m 86 1 + s) (-1)) cc cs := by
  intro fuel
  induction fuel with
  | zero => intro s h1 h2 h3; omega
  | succ fuel ih =>
    intro s hv1 hv2 hv3
    refine j_iload_n rfl rfl ?_
    refine j_iconst rfl ?_
    refine j_icmp_ge (tgt := 91) rfl (by decide) (by omega) (by omega) (by omega) (by omega) (fun hb68_1 => ?_) (fun hb68_1 => ?_)
    · skip
      have he : s = 4 := by omega
      rw [he]
      refine j_loc (ls' := [(0, vR 86), (1, vI k)]) rfl ?_
      exact hexit
    · skip
      refine j_aload_n rfl rfl ?_
      refine j_getR (q := 89) rfl f_X12_16 rfl (hS.lt (by decide)) (hS.k (by decide) (by decide)) (hS.r (by decide)) ?_
      refine j_iconst rfl ?_
      refine j_aload_n rfl rfl ?_
      refine j_getI rfl f_X12_191 rfl (hS.lt (by decide)) (hS.k (by decide) (by decide)) ?_
      rw [show mi (fil m 89 (4 * mi m 86 1) (4 * mi m 86 1 + s) (-1)) 86 1 = mi m 86 1 from by simp [mi_si, mi_fil, mi_cpr, mi_sl, mi_sr]]
      have u77_1 := mi_rng m 86 1
      refine j_imul rfl ?_
      refine j_iload_n rfl rfl ?_
      refine j_iadd rfl ?_
      refine j_iconst rfl ?_
      refine j_iast (n := 24) rfl (hS.lt (by decide)) (hS.k (by decide) (by decide)) (hS.n (by decide) (by decide)) (by omega) (by omega) (by first | decide | omega) ?_
      refine j_iinc rfl rfl (by decide) ?_
      refine j_goto (tgt := 66) rfl (by decide) ?_
      refine j_loc (ls' := [(0, vR 86), (1, vI k), (2, vI (s + 1))]) rfl ?_
      rw [fil_si (by omega) (by omega) (rfl), Int.add_assoc]
      exact ih (s + 1) (by omega) (by omega) (by omega)

def FX12_box (m : AM) (k : Int) : Int × AM :=
  if 0 ≤ k ∧ k ≤ 6 then
    if (mi m 86 1) ≠ 6 then
      ((mi (si (fil (fil (si m 87 (mi m 86 1).toNat k) 88 (8 * mi (si m 87 (mi m 86 1).toNat k) 86 1) (8 * mi (si m 87 (mi m 86 1).toNat k) 86 1 + 8) 16) 89 (4 * mi (fil (si m 87 (mi m 86 1).toNat k) 88 (8 * mi (si m 87 (mi m 86 1).toNat k) 86 1) (8 * mi (si m 87 (mi m 86 1).toNat k) 86 1 + 8) 16) 86 1) (4 * mi (fil (si m 87 (mi m 86 1).toNat k) 88 (8 * mi (si m 87 (mi m 86 1).toNat k) 86 1) (8 * mi (si m 87 (mi m 86 1).toNat k) 86 1 + 8) 16) 86 1 + 4) (-1)) 86 1 ((mi m 86 1) + 1)) 86 1) - 1, (si (fil (fil (si m 87 (mi m 86 1).toNat k) 88 (8 * mi (si m 87 (mi m 86 1).toNat k) 86 1) (8 * mi (si m 87 (mi m 86 1).toNat k) 86 1 + 8) 16) 89 (4 * mi (fil (si m 87 (mi m 86 1).toNat k) 88 (8 * mi (si m 87 (mi m 86 1).toNat k) 86 1) (8 * mi (si m 87 (mi m 86 1).toNat k) 86 1 + 8) 16) 86 1) (4 * mi (fil (si m 87 (mi m 86 1).toNat k) 88 (8 * mi (si m 87 (mi m 86 1).toNat k) 86 1) (8 * mi (si m 87 (mi m 86 1).toNat k) 86 1 + 8) 16) 86 1 + 4) (-1)) 86 1 ((mi m 86 1) + 1)))
    else
      ((-3), m)
  else
    ((-1), m)
set_option maxRecDepth 20000 in
set_option maxHeartbeats 4000000 in
theorem ct_X12_box {G : QW} {m : AM} (hS : St m) (hI : IM m) {k : Int} (hk1 : -2147483648 ≤ k) (hk2 : k < 2147483648) : qM G mX12_box 2 0 0 [vR 86, vI k] m (fun r m' => r = some (vI (FX12_box m k).1) ∧ m' = (FX12_box m k).2) := by
  refine qM.intro okX12_box (Nat.le_of_ble_eq_true rfl) ?_
  refine j_iload_n rfl rfl ?_
  refine j_iconst rfl ?_
  refine j_bipush rfl (by decide) ?_
  refine j_callS (As := [_, _, _]) rfl okX12_in c_X12_194 (ct_X12_in (by omega) (by omega) (by omega) (by omega) (by omega) (by omega)) rfl rfl (Nat.le_of_ble_eq_true rfl) (by decide) (by decide) ?_
  rintro vq mq ⟨e1, e2⟩
  rw [e1, e2]
  clear e1 e2
  simp only [Option.toList_some, Option.toList_none, List.cons_append, List.nil_append]
  refine j_bif_ne (tgt := 12) rfl (by decide) (fun hb7_1 => ?_) (fun hb7_1 => ?_)
  · skip
    refine j_aload_n rfl rfl ?_
    refine j_getI rfl f_X12_191 rfl (hS.lt (by decide)) (hS.k (by decide) (by decide)) ?_
    have u13_1 := hI.s 86 1 (0) 6 (by decide)
    refine j_bipush rfl (by decide) ?_
    refine j_icmp_ne (tgt := 24) rfl (by decide) (by omega) (by omega) (by omega) (by omega) (fun hb18_1 => ?_) (fun hb18_1 => ?_)
    · skip
      refine j_aload_n rfl rfl ?_
      refine j_getR (q := 87) rfl f_X12_7 rfl (hS.lt (by decide)) (hS.k (by decide) (by decide)) (hS.r (by decide)) ?_
      refine j_aload_n rfl rfl ?_
      refine j_getI rfl f_X12_191 rfl (hS.lt (by decide)) (hS.k (by decide) (by decide)) ?_
      have u29_1 := hI.s 86 1 (0) 6 (by decide)
      refine j_iload_n rfl rfl ?_
      refine j_iast (n := 6) rfl (hS.lt (by decide)) (hS.k (by decide) (by decide)) (hS.n (by decide) (by decide)) (by omega) (by omega) (by first | decide | omega) ?_
      refine j_iconst rfl ?_
      refine j_istore_n rfl (by decide) ?_
      refine j_loc (ls' := [(0, vR 86), (1, vI k), (2, vI 0)]) rfl ?_
      refine qJ_mem (m' := (fil (si m 87 (mi m 86 1).toNat k) 88 (8 * mi (si m 87 (mi m 86 1).toNat k) 86 1) (8 * mi (si m 87 (mi m 86 1).toNat k) 86 1 + 0) 16)) (fil_0 _ _ _ (by omega)) ?_
      refine lp_X12_box_36 (m := (si m 87 (mi m 86 1).toNat k)) hS (by simp [mi_si, mi_fil]; omega) (by simp [mi_si, mi_fil]; omega) ?_ 9 0 (by decide) (by decide) (by decide)
      refine j_iconst rfl ?_
      refine j_istore_n rfl (by decide) ?_
      refine j_loc (ls' := [(0, vR 86), (1, vI k), (2, vI 0)]) rfl ?_
      refine qJ_mem (m' := (fil (fil (si m 87 (mi m 86 1).toNat k) 88 (8 * mi (si m 87 (mi m 86 1).toNat k) 86 1) (8 * mi (si m 87 (mi m 86 1).toNat k) 86 1 + 8) 16) 89 (4 * mi (fil (si m 87 (mi m 86 1).toNat k) 88 (8 * mi (si m 87 (mi m 86 1).toNat k) 86 1) (8 * mi (si m 87 (mi m 86 1).toNat k) 86 1 + 8) 16) 86 1) (4 * mi (fil (si m 87 (mi m 86 1).toNat k) 88 (8 * mi (si m 87 (mi m 86 1).toNat k) 86 1) (8 * mi (si m 87 (mi m 86 1).toNat k) 86 1 + 8) 16) 86 1 + 0) (-1))) (fil_0 _ _ _ (by omega)) ?_
      refine lp_X12_box_66 (m := (fil (si m 87 (mi m 86 1).toNat k) 88 (8 * mi (si m 87 (mi m 86 1).toNat k) 86 1) (8 * mi (si m 87 (mi m 86 1).toNat k) 86 1 + 8) 16)) hS (by simp [mi_si, mi_fil]; omega) (by simp [mi_si, mi_fil]; omega) ?_ 5 0 (by decide) (by decide) (by decide)
      refine j_aload_n rfl rfl ?_
      refine j_dup rfl (Nat.ne_of_beq_eq_false rfl) ?_
      refine j_getI rfl f_X12_191 rfl (hS.lt (by decide)) (hS.k (by decide) (by decide)) ?_
      rw [show mi (fil (fil (si m 87 (mi m 86 1).toNat k) 88 (8 * mi (si m 87 (mi m 86 1).toNat k) 86 1) (8 * mi (si m 87 (mi m 86 1).toNat k) 86 1 + 8) 16) 89 (4 * mi (fil (si m 87 (mi m 86 1).toNat k) 88 (8 * mi (si m 87 (mi m 86 1).toNat k) 86 1) (8 * mi (si m 87 (mi m 86 1).toNat k) 86 1 + 8) 16) 86 1) (4 * mi (fil (si m 87 (mi m 86 1).toNat k) 88 (8 * mi (si m 87 (mi m 86 1).toNat k) 86 1) (8 * mi (si m 87 (mi m 86 1).toNat k) 86 1 + 8) 16) 86 1 + 4) (-1)) 86 1 = mi m 86 1 from by simp [mi_si, mi_fil, mi_cpr, mi_sl, mi_sr]]
      have u93_1 := hI.s 86 1 (0) 6 (by decide)
      refine j_iconst rfl ?_
      refine j_iadd rfl ?_
      refine j_putI rfl f_X12_191 rfl (hS.lt (by decide)) (hS.k (by decide) (by decide)) ?_
      refine j_aload_n rfl rfl ?_
      refine j_getI rfl f_X12_191 rfl (hS.lt (by decide)) (hS.k (by decide) (by decide)) ?_
      have u102_1 := mi_rng (si (fil (fil (si m 87 (mi m 86 1).toNat k) 88 (8 * mi (si m 87 (mi m 86 1).toNat k) 86 1) (8 * mi (si m 87 (mi m 86 1).toNat k) 86 1 + 8) 16) 89 (4 * mi (fil (si m 87 (mi m 86 1).toNat k) 88 (8 * mi (si m 87 (mi m 86 1).toNat k) 86 1) (8 * mi (si m 87 (mi m 86 1).toNat k) 86 1 + 8) 16) 86 1) (4 * mi (fil (si m 87 (mi m 86 1).toNat k) 88 (8 * mi (si m 87 (mi m 86 1).toNat k) 86 1) (8 * mi (si m 87 (mi m 86 1).toNat k) 86 1 + 8) 16) 86 1 + 4) (-1)) 86 1 ((mi m 86 1) + 1)) 86 1
      refine j_iconst rfl ?_
      refine j_isub rfl ?_
      refine j_iret rfl rfl ?_ rfl (Nat.le_refl _)
      unfold FX12_box
      rw [if_pos hb7_1, if_pos hb18_1]
      exact ⟨rfl, rfl⟩
    · skip
      refine j_bipush rfl (by decide) ?_
      refine j_iret rfl rfl ?_ rfl (Nat.le_refl _)
      unfold FX12_box
      rw [if_pos hb7_1, if_neg (not_not_intro hb18_1)]
      exact ⟨rfl, rfl⟩
  · skip
    refine j_iconst rfl ?_
    refine j_iret rfl rfl ?_ rfl (Nat.le_refl _)
    unfold FX12_box
    rw [if_neg hb7_1]
    exact ⟨rfl, rfl⟩

set_option maxRecDepth 20000 in
set_option maxHeartbeats 4000000 in
theorem lp_X12_keepRun_2 {G : QW} {R : Room} {F : QFin} {cc cs : Nat} {m : AM} (hS : St m)  (hexit : qJ G mX12_keepRun R F 26 [(0, vR 86)] [] (cpr m 128 106 48) cc cs) : ∀ (fuel : Nat) (s : Int), 0 ≤ s → s ≤ 48 → 48 - s < fuel → qJ G mX12_keepRun R F 2 [(0, vR 86), (1, vI s)] [] (cpr m 128 106 s) cc cs := by
  intro fuel
  induction fuel with
  | zero => intro s h1 h2 h3; omega
  | succ fuel ih =>
    intro s hv1 hv2 hv3
    refine j_iload_n rfl rfl ?_
    refine j_bipush rfl (by decide) ?_
    refine j_icmp_ge (tgt := 26) rfl (by decide) (by omega) (by omega) (by omega) (by omega) (fun hb5_1 => ?_) (fun hb5_1 => ?_)
    · skip
      have he : s = 48 := by omega
      rw [he]
      refine j_loc (ls' := [(0, vR 86)]) rfl ?_
      exact hexit
    · skip
      refine j_aload_n rfl rfl ?_
      refine j_getR (q := 128) rfl f_X12_136 rfl (hS.lt (by decide)) (hS.k (by decide) (by decide)) (hS.r (by decide)) ?_
      refine j_iload_n rfl rfl ?_
      refine j_aload_n rfl rfl ?_
      refine j_getR (q := 106) rfl f_X12_69 rfl (hS.lt (by decide)) (hS.k (by decide) (by decide)) (hS.r (by decide)) ?_
      refine j_iload_n rfl rfl ?_
      refine j_iald (n := 48) rfl (hS.lt (by decide)) (hS.k (by decide) (by decide)) (hS.n (by decide) (by decide)) (by omega) (by omega) (by decide) ?_
      rw [show mi (cpr m 128 106 s) 106 s.toNat = mi m 106 s.toNat from by simp [mi_si, mi_fil, mi_cpr, mi_sl, mi_sr, ml_sl, ml_si, ml_sr, ml_fil, ml_cpr]]
      have u18_1 := mi_rng m 106 s.toNat
      refine j_iast (n := 48) rfl (hS.lt (by decide)) (hS.k (by decide) (by decide)) (hS.n (by decide) (by decide)) (by omega) (by omega) (by first | decide | omega) ?_
      refine j_iinc rfl rfl (by decide) ?_
      refine j_goto (tgt := 2) rfl (by decide) ?_
      refine j_loc (ls' := [(0, vR 86), (1, vI (s + 1))]) rfl ?_
      rw [cpr_si (m := m) (o1 := 128) (o0 := 106) (e := s) (v := mi m 106 s.toNat) (by omega) rfl (by first | rfl | simp [mi_cpr])]
      exact ih (s + 1) (by omega) (by omega) (by omega)

set_option maxRecDepth 20000 in
set_option maxHeartbeats 4000000 in
theorem lp_X12_keepRun_28 {G : QW} {R : Room} {F : QFin} {cc cs : Nat} {m : AM} (hS : St m)  (hexit : qJ G mX12_keepRun R F 64 [(0, vR 86)] [] (cpr (cpr m 129 107 24) 130 108 24) cc cs) : ∀ (fuel : Nat) (s : Int), 0 ≤ s → s ≤ 24 → 24 - s < fuel → qJ G mX12_keepRun R F 28 [(0, vR 86), (1, vI s)] [] (cpr (cpr m 129 107 s) 130 108 s) cc cs := by
  intro fuel
  induction fuel with
  | zero => intro s h1 h2 h3; omega
  | succ fuel ih =>
    intro s hv1 hv2 hv3
    refine j_iload_n rfl rfl ?_
    refine j_bipush rfl (by decide) ?_
    refine j_icmp_ge (tgt := 64) rfl (by decide) (by omega) (by omega) (by omega) (by omega) (fun hb31_1 => ?_) (fun hb31_1 => ?_)
    · skip
      have he : s = 24 := by omega
      rw [he]
      refine j_loc (ls' := [(0, vR 86)]) rfl ?_
      exact hexit
    · skip
      refine j_aload_n rfl rfl ?_
      refine j_getR (q := 129) rfl f_X12_139 rfl (hS.lt (by decide)) (hS.k (by decide) (by decide)) (hS.r (by decide)) ?_
      refine j_iload_n rfl rfl ?_
      refine j_aload_n rfl rfl ?_
      refine j_getR (q := 107) rfl f_X12_72 rfl (hS.lt (by decide)) (hS.k (by decide) (by decide)) (hS.r (by decide)) ?_
      refine j_iload_n rfl rfl ?_
      refine j_iald (n := 24) rfl (hS.lt (by decide)) (hS.k (by decide) (by decide)) (hS.n (by decide) (by decide)) (by omega) (by omega) (by decide) ?_
      rw [show mi (cpr (cpr m 129 107 s) 130 108 s) 107 s.toNat = mi m 107 s.toNat from by simp [mi_si, mi_fil, mi_cpr, mi_sl, mi_sr, ml_sl, ml_si, ml_sr, ml_fil, ml_cpr]]
      have u44_1 := mi_rng m 107 s.toNat
      refine j_iast (n := 24) rfl (hS.lt (by decide)) (hS.k (by decide) (by decide)) (hS.n (by decide) (by decide)) (by omega) (by omega) (by first | decide | omega) ?_
      refine j_aload_n rfl rfl ?_
      refine j_getR (q := 130) rfl f_X12_142 rfl (hS.lt (by decide)) (hS.k (by decide) (by decide)) (hS.r (by decide)) ?_
      refine j_iload_n rfl rfl ?_
      refine j_aload_n rfl rfl ?_
      refine j_getR (q := 108) rfl f_X12_75 rfl (hS.lt (by decide)) (hS.k (by decide) (by decide)) (hS.r (by decide)) ?_
      refine j_iload_n rfl rfl ?_
      refine j_iald (n := 24) rfl (hS.lt (by decide)) (hS.k (by decide) (by decide)) (hS.n (by decide) (by decide)) (by omega) (by omega) (by decide) ?_
      rw [show mi (si (cpr (cpr m 129 107 s) 130 108 s) 129 s.toNat (mi m 107 s.toNat)) 108 s.toNat = mi m 108 s.toNat from by simp [mi_si, mi_fil, mi_cpr, mi_sl, mi_sr, ml_sl, ml_si, ml_sr, ml_fil, ml_cpr]]
      have u56_1 := mi_rng m 108 s.toNat
      refine j_iast (n := 24) rfl (hS.lt (by decide)) (hS.k (by decide) (by decide)) (hS.n (by decide) (by decide)) (by omega) (by omega) (by first | decide | omega) ?_
      refine j_iinc rfl rfl (by decide) ?_
      refine j_goto (tgt := 28) rfl (by decide) ?_
      refine j_loc (ls' := [(0, vR 86), (1, vI (s + 1))]) rfl ?_
      rw [si_cpr (by decide) (by decide), cpr_si (m := m) (o1 := 129) (o0 := 107) (e := s) (v := mi m 107 s.toNat) (by omega) rfl (by first | rfl | simp [mi_cpr]), cpr_si (m := (cpr m 129 107 (s + 1))) (o1 := 130) (o0 := 108) (e := s) (v := mi m 108 s.toNat) (by omega) rfl (by first | rfl | simp [mi_cpr])]
      exact ih (s + 1) (by omega) (by omega) (by omega)

set_option maxRecDepth 20000 in
set_option maxHeartbeats 4000000 in
theorem lp_X12_keepRun_66 {G : QW} {R : Room} {F : QFin} {cc cs : Nat} {m : AM} (hS : St m)  (hd : ∀ j : Nat, 0 ≤ mi m 111 j ∧ mi m 111 j ≤ 1) (hexit : qJ G mX12_keepRun R F 90 [(0, vR 86)] [] (cpr m 131 111 6) cc cs) : ∀ (fuel : Nat) (s : Int), 0 ≤ s → s ≤ 6 → 6 - s < fuel → qJ G mX12_keepRun R F 66 [(0, vR 86), (1, vI s)] [] (cpr m 131 111 s) cc cs := by
  intro fuel
  induction fuel with
  | zero => intro s h1 h2 h3; omega
  | succ fuel ih =>
    intro s hv1 hv2 hv3
    refine j_iload_n rfl rfl ?_
    refine j_bipush rfl (by decide) ?_
    refine j_icmp_ge (tgt := 90) rfl (by decide) (by omega) (by omega) (by omega) (by omega) (fun hb69_1 => ?_) (fun hb69_1 => ?_)
    · skip
      have he : s = 6 := by omega
      rw [he]
      refine j_loc (ls' := [(0, vR 86)]) rfl ?_
      exact hexit
    · skip
      refine j_aload_n rfl rfl ?_
      refine j_getR (q := 131) rfl f_X12_145 rfl (hS.lt (by decide)) (hS.k (by decide) (by decide)) (hS.r (by decide)) ?_
      refine j_iload_n rfl rfl ?_
      refine j_aload_n rfl rfl ?_
      refine j_getR (q := 111) rfl f_X12_84 rfl (hS.lt (by decide)) (hS.k (by decide) (by decide)) (hS.r (by decide)) ?_
      refine j_iload_n rfl rfl ?_
      refine j_zald (n := 6) rfl (hS.lt (by decide)) (hS.k (by decide) (by decide)) (hS.n (by decide) (by decide)) (by omega) (by omega) (by decide) ?_
      rw [show mi (cpr m 131 111 s) 111 s.toNat = mi m 111 s.toNat from by simp [mi_si, mi_fil, mi_cpr, mi_sl, mi_sr, ml_sl, ml_si, ml_sr, ml_fil, ml_cpr]]
      have u82_1 := mi_rng m 111 s.toNat
      refine j_zast (n := 6) rfl (hS.lt (by decide)) (hS.k (by decide) (by decide)) (hS.n (by decide) (by decide)) (by omega) (by omega) (by first | decide | omega) (by have := hd s.toNat; omega) ?_
      refine j_iinc rfl rfl (by decide) ?_
      refine j_goto (tgt := 66) rfl (by decide) ?_
      refine j_loc (ls' := [(0, vR 86), (1, vI (s + 1))]) rfl ?_
      rw [cpr_si (m := m) (o1 := 131) (o0 := 111) (e := s) (v := mi m 111 s.toNat) (by omega) rfl (by first | rfl | simp [mi_cpr])]
      exact ih (s + 1) (by omega) (by omega) (by omega)

def FX12_keepRun (m : AM) : AM :=
  (cpr (cpr (cpr (cpr m 128 106 48) 129 107 24) 130 108 24) 131 111 6)
set_option maxRecDepth 20000 in
set_option maxHeartbeats 4000000 in
theorem ct_X12_keepRun {G : QW} {m : AM} (hS : St m) (hI : IM m) (hd : ∀ j : Nat, 0 ≤ mi m 111 j ∧ mi m 111 j ≤ 1) : qM G mX12_keepRun 0 0 0 [vR 86] m (fun r m' => r = none ∧ m' = FX12_keepRun m) := by
  refine qM.intro okX12_keepRun (Nat.le_of_ble_eq_true rfl) ?_
  refine j_iconst rfl ?_
  refine j_istore_n rfl (by decide) ?_
  refine j_loc (ls' := [(0, vR 86), (1, vI 0)]) rfl ?_
  refine qJ_mem (m' := (cpr m 128 106 0)) (by simp only [cpr_0 _ _ _ (Int.le_refl _)]) ?_
  refine lp_X12_keepRun_2 (m := m) hS ?_ 49 0 (by decide) (by decide) (by decide)
  refine j_iconst rfl ?_
  refine j_istore_n rfl (by decide) ?_
  refine j_loc (ls' := [(0, vR 86), (1, vI 0)]) rfl ?_
  refine qJ_mem (m' := (cpr (cpr (cpr m 128 106 48) 129 107 0) 130 108 0)) (by simp only [cpr_0 _ _ _ (Int.le_refl _)]) ?_
  refine lp_X12_keepRun_28 (m := (cpr m 128 106 48)) hS ?_ 25 0 (by decide) (by decide) (by decide)
  refine j_iconst rfl ?_
  refine j_istore_n rfl (by decide) ?_
  refine j_loc (ls' := [(0, vR 86), (1, vI 0)]) rfl ?_
  refine qJ_mem (m' := (cpr (cpr (cpr (cpr m 128 106 48) 129 107 24) 130 108 24) 131 111 0)) (by simp only [cpr_0 _ _ _ (Int.le_refl _)]) ?_
  refine lp_X12_keepRun_66 (m := (cpr (cpr (cpr m 128 106 48) 129 107 24) 130 108 24)) hS (by intro j; simp only [mi_cpr]; simp; exact hd j) ?_ 7 0 (by decide) (by decide) (by decide)
  refine j_vret rfl rfl ?_ rfl (Nat.le_refl _)
  unfold FX12_keepRun
  exact ⟨rfl, rfl⟩

set_option maxRecDepth 20000 in
set_option maxHeartbeats 4000000 in
theorem lp_X12_flight_19 {G : QW} {R : Room} {F : QFin} {cc cs : Nat} {m : AM} (hS : St m)  (hn0 : 0 ≤ mi m 86 21) (hn1 : mi m 86 21 ≤ 7) (hexit : qJ G mX12_flight R F 67 [(0, vR 86)] [] (fil (fil (fil (fil m 101 (3 * mi m 86 21) (3 * mi m 86 21 + 3) 0) 102 (3 * mi m 86 21) (3 * mi m 86 21 + 3) 0) 103 (3 * mi m 86 21) (3 * mi m 86 21 + 3) 99999) 104 (3 * mi m 86 21) (3 * mi m 86 21 + 3) (-1)) cc cs) : ∀ (fuel : Nat) (k : Int), 3 * mi m 86 21 ≤ k → k ≤ 3 * mi m 86 21 + 3 → 3 * mi m 86 21 + 3 - k < fuel → qJ G mX12_flight R F 19 [(0, vR 86), (1, vI k)] [] (fil (fil (fil (fil m 101 (3 * mi m 86 21) k 0) 102 (3 * mi m 86 21) k 0) 103 (3 * mi m 86 21) k 99999) 104 (3 * mi m 86 21) k (-1)) cc cs := by
  intro fuel
  induction fuel with
  | zero => intro k h1 h2 h3; omega
  | succ fuel ih =>
    intro k hv1 hv2 hv3
    refine j_iload_n rfl rfl ?_
    refine j_iconst rfl ?_
    refine j_aload_n rfl rfl ?_
    refine j_getI rfl f_X12_267 rfl (hS.lt (by decide)) (hS.k (by decide) (by decide)) ?_
    rw [show mi (fil (fil (fil (fil m 101 (3 * mi m 86 21) k 0) 102 (3 * mi m 86 21) k 0) 103 (3 * mi m 86 21) k 99999) 104 (3 * mi m 86 21) k (-1)) 86 21 = mi m 86 21 from by simp [mi_si, mi_fil, mi_cpr, mi_sl, mi_sr]]
    have u22_1 := mi_rng m 86 21
    refine j_imul rfl ?_
    refine j_iconst rfl ?_
    refine j_iadd rfl ?_
    refine j_icmp_ge (tgt := 67) rfl (by decide) (by omega) (by omega) (by omega) (by omega) (fun hb28_1 => ?_) (fun hb28_1 => ?_)
    · skip
      have he : k = 3 * mi m 86 21 + 3 := by omega
      rw [he]
      refine j_loc (ls' := [(0, vR 86)]) rfl ?_
      exact hexit
    · skip
      refine j_aload_n rfl rfl ?_
      refine j_getR (q := 101) rfl f_X12_54 rfl (hS.lt (by decide)) (hS.k (by decide) (by decide)) (hS.r (by decide)) ?_
      refine j_iload_n rfl rfl ?_
      refine j_iconst rfl ?_
      refine j_iast (n := 24) rfl (hS.lt (by decide)) (hS.k (by decide) (by decide)) (hS.n (by decide) (by decide)) (by omega) (by omega) (by first | decide | omega) ?_
      refine j_aload_n rfl rfl ?_
      refine j_getR (q := 102) rfl f_X12_57 rfl (hS.lt (by decide)) (hS.k (by decide) (by decide)) (hS.r (by decide)) ?_
      refine j_iload_n rfl rfl ?_
      refine j_iconst rfl ?_
      refine j_iast (n := 24) rfl (hS.lt (by decide)) (hS.k (by decide) (by decide)) (hS.n (by decide) (by decide)) (by omega) (by omega) (by first | decide | omega) ?_
      refine j_aload_n rfl rfl ?_
      refine j_getR (q := 103) rfl f_X12_60 rfl (hS.lt (by decide)) (hS.k (by decide) (by decide)) (hS.r (by decide)) ?_
      refine j_iload_n rfl rfl ?_
      refine j_ldcw (v := 99999) rfl k_X12_273 ?_
      refine j_iast (n := 24) rfl (hS.lt (by decide)) (hS.k (by decide) (by decide)) (hS.n (by decide) (by decide)) (by omega) (by omega) (by first | decide | omega) ?_
      refine j_aload_n rfl rfl ?_
      refine j_getR (q := 104) rfl f_X12_63 rfl (hS.lt (by decide)) (hS.k (by decide) (by decide)) (hS.r (by decide)) ?_
      refine j_iload_n rfl rfl ?_
      refine j_iconst rfl ?_
      refine j_iast (n := 24) rfl (hS.lt (by decide)) (hS.k (by decide) (by decide)) (hS.n (by decide) (by decide)) (by omega) (by omega) (by first | decide | omega) ?_
      refine j_iinc rfl rfl (by decide) ?_
      refine j_goto (tgt := 19) rfl (by decide) ?_
      refine j_loc (ls' := [(0, vR 86), (1, vI (k + 1))]) rfl ?_
      rw [si_fil (by decide), si_fil (by decide), si_fil (by decide), fil_si (by omega) (by omega) rfl, si_fil (by decide), si_fil (by decide), fil_si (by omega) (by omega) rfl, si_fil (by decide), fil_si (by omega) (by omega) rfl, fil_si (by omega) (by omega) rfl]
      exact ih (k + 1) (by omega) (by omega) (by omega)

def FX12_flight (m : AM) : Int × AM :=
  if (mi m 86 21) ≠ 8 then
    ((mi (si (fil (fil (fil (fil m 101 (3 * mi m 86 21) (3 * mi m 86 21 + 3) 0) 102 (3 * mi m 86 21) (3 * mi m 86 21 + 3) 0) 103 (3 * mi m 86 21) (3 * mi m 86 21 + 3) 99999) 104 (3 * mi m 86 21) (3 * mi m 86 21 + 3) (-1)) 86 21 ((mi m 86 21) + 1)) 86 21) - 1, (si (fil (fil (fil (fil m 101 (3 * mi m 86 21) (3 * mi m 86 21 + 3) 0) 102 (3 * mi m 86 21) (3 * mi m 86 21 + 3) 0) 103 (3 * mi m 86 21) (3 * mi m 86 21 + 3) 99999) 104 (3 * mi m 86 21) (3 * mi m 86 21 + 3) (-1)) 86 21 ((mi m 86 21) + 1)))
  else
    ((-3), m)
set_option maxRecDepth 20000 in
set_option maxHeartbeats 4000000 in
theorem ct_X12_flight {G : QW} {m : AM} (hS : St m) (hI : IM m) : qM G mX12_flight 0 0 0 [vR 86] m (fun r m' => r = some (vI (FX12_flight m).1) ∧ m' = (FX12_flight m).2) := by
  refine qM.intro okX12_flight (Nat.le_of_ble_eq_true rfl) ?_
  refine j_aload_n rfl rfl ?_
  refine j_getI rfl f_X12_267 rfl (hS.lt (by decide)) (hS.k (by decide) (by decide)) ?_
  have u1_1 := hI.s 86 21 (0) 8 (by decide)
  refine j_bipush rfl (by decide) ?_
  refine j_icmp_ne (tgt := 12) rfl (by decide) (by omega) (by omega) (by omega) (by omega) (fun hb6_1 => ?_) (fun hb6_1 => ?_)
  · skip
    refine j_iconst rfl ?_
    refine j_aload_n rfl rfl ?_
    refine j_getI rfl f_X12_267 rfl (hS.lt (by decide)) (hS.k (by decide) (by decide)) ?_
    have u14_1 := hI.s 86 21 (0) 8 (by decide)
    refine j_imul rfl ?_
    refine j_istore_n rfl (by decide) ?_
    refine j_loc (ls' := [(0, vR 86), (1, vI (3 * mi m 86 21))]) rfl ?_
    refine qJ_mem (m' := (fil (fil (fil (fil m 101 (3 * mi m 86 21) (3 * mi m 86 21) 0) 102 (3 * mi m 86 21) (3 * mi m 86 21) 0) 103 (3 * mi m 86 21) (3 * mi m 86 21) 99999) 104 (3 * mi m 86 21) (3 * mi m 86 21) (-1))) (by simp only [fil_0 _ _ _ (Int.le_refl _)]) ?_
    refine lp_X12_flight_19 (m := m) hS (by omega) (by omega) ?_ 1000 (3 * mi m 86 21) (by omega) (by omega) (by omega)
    refine j_aload_n rfl rfl ?_
    refine j_dup rfl (Nat.ne_of_beq_eq_false rfl) ?_
    refine j_getI rfl f_X12_267 rfl (hS.lt (by decide)) (hS.k (by decide) (by decide)) ?_
    rw [show mi (fil (fil (fil (fil m 101 (3 * mi m 86 21) (3 * mi m 86 21 + 3) 0) 102 (3 * mi m 86 21) (3 * mi m 86 21 + 3) 0) 103 (3 * mi m 86 21) (3 * mi m 86 21 + 3) 99999) 104 (3 * mi m 86 21) (3 * mi m 86 21 + 3) (-1)) 86 21 = mi m 86 21 from by simp [mi_si, mi_fil, mi_cpr, mi_sl, mi_sr]]
    have u69_1 := hI.s 86 21 (0) 8 (by decide)
    refine j_iconst rfl ?_
    refine j_iadd rfl ?_
    refine j_putI rfl f_X12_267 rfl (hS.lt (by decide)) (hS.k (by decide) (by decide)) ?_
    refine j_aload_n rfl rfl ?_
    refine j_getI rfl f_X12_267 rfl (hS.lt (by decide)) (hS.k (by decide) (by decide)) ?_
    have u78_1 := mi_rng (si (fil (fil (fil (fil m 101 (3 * mi m 86 21) (3 * mi m 86 21 + 3) 0) 102 (3 * mi m 86 21) (3 * mi m 86 21 + 3) 0) 103 (3 * mi m 86 21) (3 * mi m 86 21 + 3) 99999) 104 (3 * mi m 86 21) (3 * mi m 86 21 + 3) (-1)) 86 21 ((mi m 86 21) + 1)) 86 21
    refine j_iconst rfl ?_
    refine j_isub rfl ?_
    refine j_iret rfl rfl ?_ rfl (Nat.le_refl _)
    unfold FX12_flight
    rw [if_pos hb6_1]
    exact ⟨rfl, rfl⟩
  · skip
    refine j_bipush rfl (by decide) ?_
    refine j_iret rfl rfl ?_ rfl (Nat.le_refl _)
    unfold FX12_flight
    rw [if_neg (not_not_intro hb6_1)]
    exact ⟨rfl, rfl⟩


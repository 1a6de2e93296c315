set_option maxRecDepth 20000 in
set_option maxHeartbeats 4000000 in
theorem lp_X12_begin_2 {G : QW} {R : Room} {F : QFin} {cc cs : Nat} {m : AM} (hS : St m)  (hexit : qJ G mX12_begin R F 21 [(0, vR 86)] [] (fil m 106 0 48 0) cc cs) : ∀ (n : Nat) (s : Int), 0 ≤ s → s ≤ 48 → 48 - s < n → qJ G mX12_begin R F 2 [(0, vR 86), (1, vI s)] [] (fil m 106 0 s 0) cc cs := by
  intro n
  induction n with
  | zero => intro s h1 h2 h3; omega
  | succ n ih =>
    intro s hv1 hv2 hv3
    refine j_iload_n rfl rfl ?_
    refine j_bipush rfl (by decide) ?_
    refine j_icmp_ge (tgt := 21) rfl (by decide) (by omega) (by omega) (by omega) (by omega) (fun hb5_1 => ?_) (fun hb5_1 => ?_)
    · skip
      have he : s = 48 := by omega
      rw [he]
      refine j_loc (ls' := [(0, vR 86)]) rfl ?_
      exact hexit
    · skip
      refine j_aload_n rfl rfl ?_
      refine j_getR (q := 106) rfl f_X12_69 rfl (hS.lt (by decide)) (hS.k (by decide) (by decide)) (hS.r (by decide)) ?_
      refine j_iload_n rfl rfl ?_
      refine j_iconst rfl ?_
      refine j_iast (n := 48) rfl (hS.lt (by decide)) (hS.k (by decide) (by decide)) (hS.n (by decide) (by decide)) (by omega) (by omega) (by decide) ?_
      refine j_iinc rfl rfl (by decide) ?_
      refine j_goto (tgt := 2) rfl (by decide) ?_
      refine j_loc (ls' := [(0, vR 86), (1, vI (s + 1))]) rfl ?_
      rw [fil_si (by decide) (by omega) (rfl)]
      exact ih (s + 1) (by omega) (by omega) (by omega)

set_option maxRecDepth 20000 in
set_option maxHeartbeats 4000000 in
theorem lp_X12_begin_23 {G : QW} {R : Room} {F : QFin} {cc cs : Nat} {m : AM} (hS : St m)  (hexit : qJ G mX12_begin R F 49 [(0, vR 86)] [] (fil (fil m 107 0 24 0) 108 0 24 0) cc cs) : ∀ (n : Nat) (s : Int), 0 ≤ s → s ≤ 24 → 24 - s < n → qJ G mX12_begin R F 23 [(0, vR 86), (1, vI s)] [] (fil (fil m 107 0 s 0) 108 0 s 0) cc cs := by
  intro n
  induction n with
  | zero => intro s h1 h2 h3; omega
  | succ n ih =>
    intro s hv1 hv2 hv3
    refine j_iload_n rfl rfl ?_
    refine j_bipush rfl (by decide) ?_
    refine j_icmp_ge (tgt := 49) rfl (by decide) (by omega) (by omega) (by omega) (by omega) (fun hb26_1 => ?_) (fun hb26_1 => ?_)
    · skip
      have he : s = 24 := by omega
      rw [he]
      refine j_loc (ls' := [(0, vR 86)]) rfl ?_
      exact hexit
    · skip
      refine j_aload_n rfl rfl ?_
      refine j_getR (q := 107) rfl f_X12_72 rfl (hS.lt (by decide)) (hS.k (by decide) (by decide)) (hS.r (by decide)) ?_
      refine j_iload_n rfl rfl ?_
      refine j_iconst rfl ?_
      refine j_iast (n := 24) rfl (hS.lt (by decide)) (hS.k (by decide) (by decide)) (hS.n (by decide) (by decide)) (by omega) (by omega) (by decide) ?_
      refine j_aload_n rfl rfl ?_
      refine j_getR (q := 108) rfl f_X12_75 rfl (hS.lt (by decide)) (hS.k (by decide) (by decide)) (hS.r (by decide)) ?_
      refine j_iload_n rfl rfl ?_
      refine j_iconst rfl ?_
      refine j_iast (n := 24) rfl (hS.lt (by decide)) (hS.k (by decide) (by decide)) (hS.n (by decide) (by decide)) (by omega) (by omega) (by decide) ?_
      refine j_iinc rfl rfl (by decide) ?_
      refine j_goto (tgt := 23) rfl (by decide) ?_
      refine j_loc (ls' := [(0, vR 86), (1, vI (s + 1))]) rfl ?_
      rw [si_fil (by decide), fil_si (by decide) (by omega) (rfl), fil_si (by decide) (by omega) (rfl)]
      exact ih (s + 1) (by omega) (by omega) (by omega)

set_option maxRecDepth 20000 in
set_option maxHeartbeats 4000000 in
theorem lp_X12_begin_51 {G : QW} {R : Room} {F : QFin} {cc cs : Nat} {m : AM} (hS : St m)  (hexit : qJ G mX12_begin R F 84 [(0, vR 86)] [] (fil (fil (fil m 111 0 6 0) 112 0 6 (-1)) 113 0 6 0) cc cs) : ∀ (n : Nat) (s : Int), 0 ≤ s → s ≤ 6 → 6 - s < n → qJ G mX12_begin R F 51 [(0, vR 86), (1, vI s)] [] (fil (fil (fil m 111 0 s 0) 112 0 s (-1)) 113 0 s 0) cc cs := by
  intro n
  induction n with
  | zero => intro s h1 h2 h3; omega
  | succ n ih =>
    intro s hv1 hv2 hv3
    refine j_iload_n rfl rfl ?_
    refine j_bipush rfl (by decide) ?_
    refine j_icmp_ge (tgt := 84) rfl (by decide) (by omega) (by omega) (by omega) (by omega) (fun hb54_1 => ?_) (fun hb54_1 => ?_)
    · skip
      have he : s = 6 := by omega
      rw [he]
      refine j_loc (ls' := [(0, vR 86)]) rfl ?_
      exact hexit
    · skip
      refine j_aload_n rfl rfl ?_
      refine j_getR (q := 111) rfl f_X12_84 rfl (hS.lt (by decide)) (hS.k (by decide) (by decide)) (hS.r (by decide)) ?_
      refine j_iload_n rfl rfl ?_
      refine j_iconst rfl ?_
      refine j_zast (n := 6) rfl (hS.lt (by decide)) (hS.k (by decide) (by decide)) (hS.n (by decide) (by decide)) (by omega) (by omega) (by decide) (Or.inl rfl) ?_
      refine j_aload_n rfl rfl ?_
      refine j_getR (q := 112) rfl f_X12_87 rfl (hS.lt (by decide)) (hS.k (by decide) (by decide)) (hS.r (by decide)) ?_
      refine j_iload_n rfl rfl ?_
      refine j_iconst rfl ?_
      refine j_iast (n := 6) rfl (hS.lt (by decide)) (hS.k (by decide) (by decide)) (hS.n (by decide) (by decide)) (by omega) (by omega) (by decide) ?_
      refine j_aload_n rfl rfl ?_
      refine j_getR (q := 113) rfl f_X12_90 rfl (hS.lt (by decide)) (hS.k (by decide) (by decide)) (hS.r (by decide)) ?_
      refine j_iload_n rfl rfl ?_
      refine j_iconst rfl ?_
      refine j_iast (n := 6) rfl (hS.lt (by decide)) (hS.k (by decide) (by decide)) (hS.n (by decide) (by decide)) (by omega) (by omega) (by decide) ?_
      refine j_iinc rfl rfl (by decide) ?_
      refine j_goto (tgt := 51) rfl (by decide) ?_
      refine j_loc (ls' := [(0, vR 86), (1, vI (s + 1))]) rfl ?_
      rw [si_fil (by decide), si_fil (by decide), fil_si (by decide) (by omega) (rfl), si_fil (by decide), fil_si (by decide) (by omega) (rfl), fil_si (by decide) (by omega) (rfl)]
      exact ih (s + 1) (by omega) (by omega) (by omega)

def FX12_begin (m : AM) : AM :=
  (si (fil (fil (fil (fil (fil (fil m 106 0 48 0) 107 0 24 0) 108 0 24 0) 111 0 6 0) 112 0 6 (-1)) 113 0 6 0) 86 35 (-1))
set_option maxRecDepth 20000 in
set_option maxHeartbeats 4000000 in
theorem ct_X12_begin {G : QW} {m : AM} (hS : St m) (hI : IM m) : qM G mX12_begin 0 0 0 [vR 86] m (fun r m' => r = none ∧ m' = FX12_begin m) := by
  refine qM.intro okX12_begin (Nat.le_of_ble_eq_true rfl) ?_
  refine j_iconst rfl ?_
  refine j_istore_n rfl (by decide) ?_
  refine j_loc (ls' := [(0, vR 86), (1, vI 0)]) rfl ?_
  refine qJ_mem (m' := (fil m 106 0 0 0)) (by simp only [fil_0 _ _ _ (Int.le_refl _)]) ?_
  refine lp_X12_begin_2 (m := m) hS ?_ 49 0 (by decide) (by decide) (by decide)
  refine j_iconst rfl ?_
  refine j_istore_n rfl (by decide) ?_
  refine j_loc (ls' := [(0, vR 86), (1, vI 0)]) rfl ?_
  refine qJ_mem (m' := (fil (fil (fil m 106 0 48 0) 107 0 0 0) 108 0 0 0)) (by simp only [fil_0 _ _ _ (Int.le_refl _)]) ?_
  refine lp_X12_begin_23 (m := (fil m 106 0 48 0)) hS ?_ 25 0 (by decide) (by decide) (by decide)
  refine j_iconst rfl ?_
  refine j_istore_n rfl (by decide) ?_
  refine j_loc (ls' := [(0, vR 86), (1, vI 0)]) rfl ?_
  refine qJ_mem (m' := (fil (fil (fil (fil (fil (fil m 106 0 48 0) 107 0 24 0) 108 0 24 0) 111 0 0 0) 112 0 0 (-1)) 113 0 0 0)) (by simp only [fil_0 _ _ _ (Int.le_refl _)]) ?_
  refine lp_X12_begin_51 (m := (fil (fil (fil m 106 0 48 0) 107 0 24 0) 108 0 24 0)) hS ?_ 7 0 (by decide) (by decide) (by decide)
  refine j_aload_n rfl rfl ?_
  refine j_iconst rfl ?_
  refine j_putI rfl f_X12_352 rfl (hS.lt (by decide)) (hS.k (by decide) (by decide)) ?_
  refine j_vret rfl rfl ?_ rfl (Nat.le_refl _)
  unfold FX12_begin
  exact ⟨rfl, rfl⟩

set_option maxRecDepth 20000 in
set_option maxHeartbeats 4000000 in
theorem lp_X12_box_36 {G : QW} {R : Room} {F : QFin} {cc cs : Nat} {m : AM} (hS : St m) {k : Int} (hn0 : 0 ≤ mi m 86 1) (hn1 : mi m 86 1 ≤ 5) (hexit : qJ G mX12_box R F 64 [(0, vR 86), (1, vI k)] [] (fil m 88 (8 * mi m 86 1) (8 * mi m 86 1 + 8) 16) cc cs) : ∀ (n : Nat) (s : Int), 0 ≤ s → s ≤ 8 → 8 - s < n → qJ G mX12_box R F 36 [(0, vR 86), (1, vI k), (2, vI s)] [] (fil m 88 (8 * mi m 86 1) (8 * mi m 86 1 + s) 16) cc cs := by
  intro n
  induction n with
  | zero => intro s h1 h2 h3; omega
  | succ n ih =>
    intro s hv1 hv2 hv3
    refine j_iload_n rfl rfl ?_
    refine j_bipush rfl (by decide) ?_
    refine j_icmp_ge (tgt := 64) rfl (by decide) (by omega) (by omega) (by omega) (by omega) (fun hb39_1 => ?_) (fun hb39_1 => ?_)
    · skip
      have he : s = 8 := by omega
      rw [he]
      refine j_loc (ls' := [(0, vR 86), (1, vI k)]) rfl ?_
      exact hexit
    · skip
      refine j_aload_n rfl rfl ?_
      refine j_getR (q := 88) rfl f_X12_13 rfl (hS.lt (by decide)) (hS.k (by decide) (by decide)) (hS.r (by decide)) ?_
      refine j_bipush rfl (by decide) ?_
      refine j_aload_n rfl rfl ?_
      refine j_getI rfl f_X12_191 rfl (hS.lt (by decide)) (hS.k (by decide) (by decide)) ?_
      rw [show mi (fil m 88 (8 * mi m 86 1) (8 * mi m 86 1 + s) 16) 86 1 = mi m 86 1 from by simp [mi_si, mi_fil, mi_cpr, mi_sl, mi_sr]]
      have u49_1 := mi_rng m 86 1
      refine j_imul rfl ?_
      refine j_iload_n rfl rfl ?_
      refine j_iadd rfl ?_
      refine j_bipush rfl (by decide) ?_
      refine j_iast (n := 48) rfl (hS.lt (by decide)) (hS.k (by decide) (by decide)) (hS.n (by decide) (by decide)) (by omega) (by omega) (by decide) ?_
      refine j_iinc rfl rfl (by decide) ?_
      refine j_goto (tgt := 36) rfl (by decide) ?_
      refine j_loc (ls' := [(0, vR 86), (1, vI k), (2, vI (s + 1))]) rfl ?_
      rw [fil_si (by omega) (by omega) (rfl), Int.add_assoc]
      exact ih (s + 1) (by omega) (by omega) (by omega)

set_option maxRecDepth 20000 in
set_option maxHeartbeats 4000000 in
theorem lp_X12_box_66 {G : QW} {R : Room} {F : QFin} {cc cs : Nat} {m : AM} (hS : St m) {k : Int} (hn0 : 0 ≤ mi m 86 1) (hn1 : mi m 86 1 ≤ 5) (hexit : qJ G mX12_box R F 91 [(0, vR 86), (1, vI k)] [] (fil m 89 (4 * mi m 86 1) (4 * mi m 86 1 + 4) (-1)) cc cs) : ∀ (n : Nat) (s : Int), 0 ≤ s → s ≤ 4 → 4 - s < n → qJ G mX12_box R F 66 [(0, vR 86), (1, vI k), (2, vI s)] [] (fil m 89 (4 * mi m 86 1) (4 * mi m 86 1 + s) (-1)) cc cs := by
  intro n
  induction n with
  | zero => intro s h1 h2 h3; omega
  | succ n ih =>
    intro s hv1 hv2 hv3
    refine j_iload_n rfl rfl ?_
    refine j_iconst rfl ?_
    refine j_icmp_ge (tgt := 91) rfl (by decide) (by omega) (by omega) (by omega) (by omega) (fun hb68_1 => ?_) (fun hb68_1 => ?_)
    · skip
      have he : s = 4 := by omega
      rw [he]
      refine j_loc (ls' := [(0, vR 86), (1, vI k)]) rfl ?_
      exact hexit
    · skip
      refine j_aload_n rfl rfl ?_
      refine j_getR (q := 89) rfl f_X12_16 rfl (hS.lt (by decide)) (hS.k (by decide) (by decide)) (hS.r (by decide)) ?_
      refine j_iconst rfl ?_
      refine j_aload_n rfl rfl ?_
      refine j_getI rfl f_X12_191 rfl (hS.lt (by decide)) (hS.k (by decide) (by decide)) ?_
      rw [show mi (fil m 89 (4 * mi m 86 1) (4 * mi m 86 1 + s) (-1)) 86 1 = mi m 86 1 from by simp [mi_si, mi_fil, mi_cpr, mi_sl, mi_sr]]
      have u77_1 := mi_rng m 86 1
      refine j_imul rfl ?_
      refine j_iload_n rfl rfl ?_
      refine j_iadd rfl ?_
      refine j_iconst rfl ?_
      refine j_iast (n := 24) rfl (hS.lt (by decide)) (hS.k (by decide) (by decide)) (hS.n (by decide) (by decide)) (by omega) (by omega) (by decide) ?_
      refine j_iinc rfl rfl (by decide) ?_
      refine j_goto (tgt := 66) rfl (by decide) ?_
      refine j_loc (ls' := [(0, vR 86), (1, vI k), (2, vI (s + 1))]) rfl ?_
      rw [fil_si (by omega) (by omega) (rfl), Int.add_assoc]
      exact ih (s + 1) (by omega) (by omega) (by omega)

def FX12_box (m : AM) (k : Int) : Int × AM :=
  if 0 ≤ k ∧ k ≤ 6 then
    if (mi m 86 1) ≠ 6 then
      ((mi (si (fil (fil (si m 87 (mi m 86 1).toNat k) 88 (8 * mi (si m 87 (mi m 86 1).toNat k) 86 1) (8 * mi (si m 87 (mi m 86 1).toNat k) 86 1 + 8) 16) 89 (4 * mi (fil (si m 87 (mi m 86 1).toNat k) 88 (8 * mi (si m 87 (mi m 86 1).toNat k) 86 1) (8 * mi (si m 87 (mi m 86 1).toNat k) 86 1 + 8) 16) 86 1) (4 * mi (fil (si m 87 (mi m 86 1).toNat k) 88 (8 * mi (si m 87 (mi m 86 1).toNat k) 86 1) (8 * mi (si m 87 (mi m 86 1).toNat k) 86 1 + 8) 16) 86 1 + 4) (-1)) 86 1 ((mi m 86 1) + 1)) 86 1) - 1, (si (fil (fil (si m 87 (mi m 86 1).toNat k) 88 (8 * mi (si m 87 (mi m 86 1).toNat k) 86 1) (8 * mi (si m 87 (mi m 86 1).toNat k) 86 1 + 8) 16) 89 (4 * mi (fil (si m 87 (mi m 86 1).toNat k) 88 (8 * mi (si m 87 (mi m 86 1).toNat k) 86 1) (8 * mi (si m 87 (mi m 86 1).toNat k) 86 1 + 8) 16) 86 1) (4 * mi (fil (si m 87 (mi m 86 1).toNat k) 88 (8 * mi (si m 87 (mi m 86 1).toNat k) 86 1) (8 * mi (si m 87 (mi m 86 1).toNat k) 86 1 + 8) 16) 86 1 + 4) (-1)) 86 1 ((mi m 86 1) + 1)))
    else
      ((-3), m)
  else
    ((-1), m)
set_option maxRecDepth 20000 in
set_option maxHeartbeats 4000000 in
theorem ct_X12_box {G : QW} {m : AM} (hS : St m) (hI : IM m) {k : Int} (hk1 : -2147483648 ≤ k) (hk2 : k < 2147483648) : qM G mX12_box 2 0 0 [vR 86, vI k] m (fun r m' => r = some (vI (FX12_box m k).1) ∧ m' = (FX12_box m k).2) := by
  refine qM.intro okX12_box (Nat.le_of_ble_eq_true rfl) ?_
  refine j_iload_n rfl rfl ?_
  refine j_iconst rfl ?_
  refine j_bipush rfl (by decide) ?_
  refine j_callS (As := [_, _, _]) rfl okX12_in c_X12_194 (ct_X12_in (by omega) (by omega) (by omega) (by omega) (by omega) (by omega)) rfl rfl (by decide) (by decide) (by decide) ?_
  rintro vq mq ⟨e1, e2⟩
  rw [e1, e2]
  clear e1 e2
  simp only [Option.toList_some, Option.toList_none, List.cons_append, List.nil_append]
  refine j_bif_ne (tgt := 12) rfl (by decide) (fun hb7_1 => ?_) (fun hb7_1 => ?_)
  · skip
    refine j_aload_n rfl rfl ?_
    refine j_getI rfl f_X12_191 rfl (hS.lt (by decide)) (hS.k (by decide) (by decide)) ?_
    have u13_1 := hI.s 86 1 (0) 6 (by decide)
    refine j_bipush rfl (by decide) ?_
    refine j_icmp_ne (tgt := 24) rfl (by decide) (by omega) (by omega) (by omega) (by omega) (fun hb18_1 => ?_) (fun hb18_1 => ?_)
    · skip
      refine j_aload_n rfl rfl ?_
      refine j_getR (q := 87) rfl f_X12_7 rfl (hS.lt (by decide)) (hS.k (by decide) (by decide)) (hS.r (by decide)) ?_
      refine j_aload_n rfl rfl ?_
      refine j_getI rfl f_X12_191 rfl (hS.lt (by decide)) (hS.k (by decide) (by decide)) ?_
      have u29_1 := hI.s 86 1 (0) 6 (by decide)
      refine j_iload_n rfl rfl ?_
      refine j_iast (n := 6) rfl (hS.lt (by decide)) (hS.k (by decide) (by decide)) (hS.n (by decide) (by decide)) (by omega) (by omega) (by decide) ?_
      refine j_iconst rfl ?_
      refine j_istore_n rfl (by decide) ?_
      refine j_loc (ls' := [(0, vR 86), (1, vI k), (2, vI 0)]) rfl ?_
      refine qJ_mem (m' := (fil (si m 87 (mi m 86 1).toNat k) 88 (8 * mi (si m 87 (mi m 86 1).toNat k) 86 1) (8 * mi (si m 87 (mi m 86 1).toNat k) 86 1 + 0) 16)) (fil_0 _ _ _ (by omega)) ?_
      refine lp_X12_box_36 (m := (si m 87 (mi m 86 1).toNat k)) hS (by simp [mi_si, mi_fil]; omega) (by simp [mi_si, mi_fil]; omega) ?_ 9 0 (by decide) (by decide) (by decide)
      refine j_iconst rfl ?_
      refine j_istore_n rfl (by decide) ?_
      refine j_loc (ls' := [(0, vR 86), (1, vI k), (2, vI 0)]) rfl ?_
      refine qJ_mem (m' := (fil (fil (si m 87 (mi m 86 1).toNat k) 88 (8 * mi (si m 87 (mi m 86 1).toNat k) 86 1) (8 * mi (si m 87 (mi m 86 1).toNat k) 86 1 + 8) 16) 89 (4 * mi (fil (si m 87 (mi m 86 1).toNat k) 88 (8 * mi (si m 87 (mi m 86 1).toNat k) 86 1) (8 * mi (si m 87 (mi m 86 1).toNat k) 86 1 + 8) 16) 86 1) (4 * mi (fil (si m 87 (mi m 86 1).toNat k) 88 (8 * mi (si m 87 (mi m 86 1).toNat k) 86 1) (8 * mi (si m 87 (mi m 86 1).toNat k) 86 1 + 8) 16) 86 1 + 0) (-1))) (fil_0 _ _ _ (by omega)) ?_
      refine lp_X12_box_66 (m := (fil (si m 87 (mi m 86 1).toNat k) 88 (8 * mi (si m 87 (mi m 86 1).toNat k) 86 1) (8 * mi (si m 87 (mi m 86 1).toNat k) 86 1 + 8) 16)) hS (by simp [mi_si, mi_fil]; omega) (by simp [mi_si, mi_fil]; omega) ?_ 5 0 (by decide) (by decide) (by decide)
      refine j_aload_n rfl rfl ?_
      refine j_dup rfl (by decide) ?_
      refine j_getI rfl f_X12_191 rfl (hS.lt (by decide)) (hS.k (by decide) (by decide)) ?_
      rw [show mi (fil (fil (si m 87 (mi m 86 1).toNat k) 88 (8 * mi (si m 87 (mi m 86 1).toNat k) 86 1) (8 * mi (si m 87 (mi m 86 1).toNat k) 86 1 + 8) 16) 89 (4 * mi (fil (si m 87 (mi m 86 1).toNat k) 88 (8 * mi (si m 87 (mi m 86 1).toNat k) 86 1) (8 * mi (si m 87 (mi m 86 1).toNat k) 86 1 + 8) 16) 86 1) (4 * mi (fil (si m 87 (mi m 86 1).toNat k) 88 (8 * mi (si m 87 (mi m 86 1).toNat k) 86 1) (8 * mi (si m 87 (mi m 86 1).toNat k) 86 1 + 8) 16) 86 1 + 4) (-1)) 86 1 = mi m 86 1 from by simp [mi_si, mi_fil, mi_cpr, mi_sl, mi_sr]]
      have u93_1 := hI.s 86 1 (0) 6 (by decide)
      refine j_iconst rfl ?_
      refine j_iadd rfl ?_
      refine j_putI rfl f_X12_191 rfl (hS.lt (by decide)) (hS.k (by decide) (by decide)) ?_
      refine j_aload_n rfl rfl ?_
      refine j_getI rfl f_X12_191 rfl (hS.lt (by decide)) (hS.k (by decide) (by decide)) ?_
      have u102_1 := mi_rng (si (fil (fil (si m 87 (mi m 86 1).toNat k) 88 (8 * mi (si m 87 (mi m 86 1).toNat k) 86 1) (8 * mi (si m 87 (mi m 86 1).toNat k) 86 1 + 8) 16) 89 (4 * mi (fil (si m 87 (mi m 86 1).toNat k) 88 (8 * mi (si m 87 (mi m 86 1).toNat k) 86 1) (8 * mi (si m 87 (mi m 86 1).toNat k) 86 1 + 8) 16) 86 1) (4 * mi (fil (si m 87 (mi m 86 1).toNat k) 88 (8 * mi (si m 87 (mi m 86 1).toNat k) 86 1) (8 * mi (si m 87 (mi m 86 1).toNat k) 86 1 + 8) 16) 86 1 + 4) (-1)) 86 1 ((mi m 86 1) + 1)) 86 1
      refine j_iconst rfl ?_
      refine j_isub rfl ?_
      refine j_iret rfl rfl ?_ rfl (Nat.le_refl _)
      unfold FX12_box
      rw [if_pos hb7_1, if_pos hb18_1]
      exact ⟨rfl, rfl⟩
    · skip
      refine j_bipush rfl (by decide) ?_
      refine j_iret rfl rfl ?_ rfl (Nat.le_refl _)
      unfold FX12_box
      rw [if_pos hb7_1, if_neg (not_not_intro hb18_1)]
      exact ⟨rfl, rfl⟩
  · skip
    refine j_iconst rfl ?_
    refine j_iret rfl rfl ?_ rfl (Nat.le_refl _)
    unfold FX12_box
    rw [if_neg hb7_1]
    exact ⟨rfl, rfl⟩


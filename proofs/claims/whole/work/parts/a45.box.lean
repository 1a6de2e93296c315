/-- box() and flight() of the class, when they make one -/
def boxN (m : AM) (k : Int) : AM := si (sr (bxI (am_new m 1 0) (mz m) (mi m 0 16) k) 3 (mi m 0 16).toNat (some (mz m))) 0 16 (mi m 0 16 + 1)
def fliN (m : AM) : AM := si (sr (flI (am_new m 3 0) (mz m)) 4 (mi m 0 17).toNat (some (mz m))) 0 17 (mi m 0 17 + 1)

set_option maxRecDepth 20000 in
set_option maxHeartbeats 4000000 in
theorem cr_box1 {G : QW} {m : AM} {k : Int} (hS0 : St m) (hI : IM m) (hg : (0 ≤ k ∧ k ≤ 6) ∧ mi m 0 16 < 6) : qM G mX11_box 3 9 235 [vR 0, vI k] m (fun r N => r = some (vI (mi m 0 16)) ∧ N = boxN m k) := by
  obtain ⟨x, hx⟩ : ∃ x, mz m = x := ⟨_, rfl⟩
  have hx5 : 145 ≤ x := by rw [← hx]; exact hS0.1
  have hS := hS0
  have hz := hx
  have hr := hI.s 0 16 0 6 (by decide)
  refine qM.intro okX11_box (Nat.le_of_ble_eq_true rfl) ?_
  refine j_iload_n rfl rfl ?_
  refine j_if_lt (tgt := 10) rfl (by decide) (by omega) (by omega) (fun hb1_1 => ?_) (fun hb1_1 => ?_)
  · skip
    exfalso
    omega
  · skip
    refine j_iload_n rfl rfl ?_
    refine j_bipush rfl (by decide) ?_
    refine j_icmp_lt (tgt := 12) rfl (by decide) (by omega) (by omega) (by omega) (by omega) (fun hb7_1 => ?_) (fun hb7_1 => ?_)
    · skip
      refine j_aload_n rfl rfl ?_
      refine j_getI rfl f_X11_113 rfl (hS.lt (by decide)) (hS.k (by decide) (by decide)) ?_
      refine j_bipush rfl (by decide) ?_
      refine j_icmp_ne (tgt := 24) rfl (by decide) (by omega) (by omega) (by omega) (by omega) (fun hb18_1 => ?_) (fun hb18_1 => ?_)
      · skip
        refine j_aload_n rfl rfl ?_
        refine j_getR (q := 3) rfl f_X11_18 rfl (hS.lt (by decide)) (hS.k (by decide) (by decide)) (hS.r (by decide)) ?_
        refine j_aload_n rfl rfl ?_
        refine j_getI rfl f_X11_113 rfl (hS.lt (by decide)) (hS.k (by decide) (by decide)) ?_
        have hz : mz m = x := hz
        refine j_new (ci := 1) (q0 := (RX1, TX1, 6)) rfl rfl (by decide) rfl hin_X1 tyX1_ok dfX1 cl_X11_16 insX1 iniX1 (by decide) (by decide) ?_
        rw [hz]
        have hnw := am_made (kd := 1) (len := 0) hz
        have hz : mz (am_new m 1 0) = (x + 1) := by show mz m + 1 = _; rw [hz]
        have hgw : Gw m (am_new m 1 0) x := Gw.new m hx
        have hS := hgw.st hx5 hS0
        refine j_dup rfl (Nat.ne_of_beq_eq_false rfl) ?_
        refine j_aload_n rfl rfl ?_
        refine j_getI rfl f_X11_113 rfl (hS.lt (by decide)) (hS.k (by decide) (by decide)) ?_
        rw [show mi (am_new m 1 0) 0 16 = mi m 0 16 from (hgw.2 0 (by omega)).2.2.1 16]
        refine j_iload_n rfl rfl ?_
        refine j_callI rfl okX1_init c_X11_116 (ct_X1_init (m := (am_new m 1 0)) (x := x) hnw hz (by omega) (by omega) (by omega) (by omega)) rfl rfl (Nat.le_of_ble_eq_true rfl) (by decide) (by decide) ?_
        rintro vq mq ⟨e1, e2⟩
        rw [e1, e2]
        clear e1 e2
        simp only [Option.toList_some, Option.toList_none, List.cons_append, List.nil_append]
        have hnw2 : x < mz (bxI (am_new m 1 0) x (mi m 0 16) k) ∧ mk (bxI (am_new m 1 0) x (mi m 0 16) k) x = 1 := ⟨by rw [(bxI_new hz).1]; omega, (bxI_new hz).2.1.trans hnw.2⟩
        have hgw := hgw.trans (bxI_old (nu := mi m 0 16) (kd := k) hz)
        have hS := hgw.st hx5 hS0
        refine j_aast (k := 17) (n := 6) (ci := 1) (r := (RX1, TX1, 6)) rfl (hS.lt (by decide)) (hS.k (by decide) (by decide)) (hS.n (by decide) (by decide)) (by omega) (by omega) (by decide) hnw2.1 hnw2.2 (by decide) rfl el17 ?_
        refine j_aload_n rfl rfl ?_
        refine j_dup rfl (Nat.ne_of_beq_eq_false rfl) ?_
        refine j_getI rfl f_X11_113 rfl (hS.lt (by decide)) (hS.k (by decide) (by decide)) ?_
        rw [show mi (sr (bxI (am_new m 1 0) x (mi m 0 16) k) 3 (mi m 0 16).toNat (some x)) 0 16 = mi m 0 16 from (hgw.2 0 (by omega)).2.2.1 16]
        refine j_dup_x1 rfl (Nat.ne_of_beq_eq_false rfl) (Nat.ne_of_beq_eq_false rfl) ?_
        refine j_iconst rfl ?_
        refine j_iadd rfl ?_
        refine j_putI rfl f_X11_113 rfl (hS.lt (by decide)) (hS.k (by decide) (by decide)) ?_
        refine j_iret rfl rfl ?_ rfl (Nat.le_refl _)
        subst hx
        exact ⟨rfl, rfl⟩
      · skip
        exfalso
        omega
    · skip
      exfalso
      omega

set_option maxRecDepth 20000 in
set_option maxHeartbeats 4000000 in
theorem cr_box0 {G : QW} {m : AM} {k : Int} (hS : St m) (hI : IM m) (hk1 : -2147483648 ≤ k) (hk2 : k < 2147483648) (hg : ¬ ((0 ≤ k ∧ k ≤ 6) ∧ mi m 0 16 < 6)) : qM G mX11_box 3 0 0 [vR 0, vI k] m (fun r N => r = some (vI (if 0 ≤ k ∧ k ≤ 6 then -3 else -1)) ∧ N = m) := by
  have hr := hI.s 0 16 0 6 (by decide)
  refine qM.intro okX11_box (Nat.le_of_ble_eq_true rfl) ?_
  refine j_iload_n rfl rfl ?_
  refine j_if_lt (tgt := 10) rfl (by decide) (by omega) (by omega) (fun hb1_1 => ?_) (fun hb1_1 => ?_)
  · skip
    refine j_iconst rfl ?_
    refine j_iret rfl rfl ?_ rfl (Nat.le_refl _)
    exact ⟨by first | (rw [if_pos (by omega)]; done) | (rw [if_neg (by omega)]; done), rfl⟩
  · skip
    refine j_iload_n rfl rfl ?_
    refine j_bipush rfl (by decide) ?_
    refine j_icmp_lt (tgt := 12) rfl (by decide) (by omega) (by omega) (by omega) (by omega) (fun hb7_1 => ?_) (fun hb7_1 => ?_)
    · skip
      refine j_aload_n rfl rfl ?_
      refine j_getI rfl f_X11_113 rfl (hS.lt (by decide)) (hS.k (by decide) (by decide)) ?_
      refine j_bipush rfl (by decide) ?_
      refine j_icmp_ne (tgt := 24) rfl (by decide) (by omega) (by omega) (by omega) (by omega) (fun hb18_1 => ?_) (fun hb18_1 => ?_)
      · skip
        exfalso
        omega
      · skip
        refine j_bipush rfl (by decide) ?_
        refine j_iret rfl rfl ?_ rfl (Nat.le_refl _)
        exact ⟨by first | (rw [if_pos (by omega)]; done) | (rw [if_neg (by omega)]; done), rfl⟩
    · skip
      refine j_iconst rfl ?_
      refine j_iret rfl rfl ?_ rfl (Nat.le_refl _)
      exact ⟨by first | (rw [if_pos (by omega)]; done) | (rw [if_neg (by omega)]; done), rfl⟩

set_option maxRecDepth 20000 in
set_option maxHeartbeats 4000000 in
theorem cr_flight1 {G : QW} {m : AM} (hS0 : St m) (hI : IM m) (hg : mi m 0 17 < 8) : qM G mX11_flight 2 9 200 [vR 0] m (fun r N => r = some (vI (mi m 0 17)) ∧ N = fliN m) := by
  obtain ⟨x, hx⟩ : ∃ x, mz m = x := ⟨_, rfl⟩
  have hx5 : 145 ≤ x := by rw [← hx]; exact hS0.1
  have hS := hS0
  have hz := hx
  have hr := hI.s 0 17 0 8 (by decide)
  refine qM.intro okX11_flight (Nat.le_of_ble_eq_true rfl) ?_
  refine j_aload_n rfl rfl ?_
  refine j_getI rfl f_X11_156 rfl (hS.lt (by decide)) (hS.k (by decide) (by decide)) ?_
  refine j_bipush rfl (by decide) ?_
  refine j_icmp_ne (tgt := 12) rfl (by decide) (by omega) (by omega) (by omega) (by omega) (fun hb6_1 => ?_) (fun hb6_1 => ?_)
  · skip
    refine j_aload_n rfl rfl ?_
    refine j_getR (q := 4) rfl f_X11_24 rfl (hS.lt (by decide)) (hS.k (by decide) (by decide)) (hS.r (by decide)) ?_
    refine j_aload_n rfl rfl ?_
    refine j_getI rfl f_X11_156 rfl (hS.lt (by decide)) (hS.k (by decide) (by decide)) ?_
    have hz : mz m = x := hz
    refine j_new (ci := 3) (q0 := (RX3, TX3, 5)) rfl rfl (by decide) rfl hin_X3 tyX3_ok dfX3 cl_X11_22 insX3 iniX3 (by decide) (by decide) ?_
    rw [hz]
    have hnw := am_made (kd := 3) (len := 0) hz
    have hz : mz (am_new m 3 0) = (x + 1) := by show mz m + 1 = _; rw [hz]
    have hgw : Gw m (am_new m 3 0) x := Gw.new m hx
    have hS := hgw.st hx5 hS0
    refine j_dup rfl (Nat.ne_of_beq_eq_false rfl) ?_
    refine j_callI rfl okX3_init c_X11_75 (ct_X3_init (m := (am_new m 3 0)) (x := x) hnw hz) rfl rfl (Nat.le_of_ble_eq_true rfl) (by decide) (by decide) ?_
    rintro vq mq ⟨e1, e2⟩
    rw [e1, e2]
    clear e1 e2
    simp only [Option.toList_some, Option.toList_none, List.cons_append, List.nil_append]
    have hnw2 : x < mz (flI (am_new m 3 0) x) ∧ mk (flI (am_new m 3 0) x) x = 3 := ⟨by rw [(flI_new hz).1]; omega, (flI_new hz).2.1.trans hnw.2⟩
    have hgw := hgw.trans (flI_old hz)
    have hS := hgw.st hx5 hS0
    refine j_aast (k := 18) (n := 8) (ci := 3) (r := (RX3, TX3, 5)) rfl (hS.lt (by decide)) (hS.k (by decide) (by decide)) (hS.n (by decide) (by decide)) (by omega) (by omega) (by decide) hnw2.1 hnw2.2 (by decide) rfl el18 ?_
    refine j_aload_n rfl rfl ?_
    refine j_dup rfl (Nat.ne_of_beq_eq_false rfl) ?_
    refine j_getI rfl f_X11_156 rfl (hS.lt (by decide)) (hS.k (by decide) (by decide)) ?_
    rw [show mi (sr (flI (am_new m 3 0) x) 4 (mi m 0 17).toNat (some x)) 0 17 = mi m 0 17 from (hgw.2 0 (by omega)).2.2.1 17]
    refine j_dup_x1 rfl (Nat.ne_of_beq_eq_false rfl) (Nat.ne_of_beq_eq_false rfl) ?_
    refine j_iconst rfl ?_
    refine j_iadd rfl ?_
    refine j_putI rfl f_X11_156 rfl (hS.lt (by decide)) (hS.k (by decide) (by decide)) ?_
    refine j_iret rfl rfl ?_ rfl (Nat.le_refl _)
    subst hx
    exact ⟨rfl, rfl⟩
  · skip
    exfalso
    omega

set_option maxRecDepth 20000 in
set_option maxHeartbeats 4000000 in
theorem cr_flight0 {G : QW} {m : AM} (hS : St m) (hI : IM m) (hg : ¬ (mi m 0 17 < 8)) : qM G mX11_flight 2 0 0 [vR 0] m (fun r N => r = some (vI (-3)) ∧ N = m) := by
  have hr := hI.s 0 17 0 8 (by decide)
  refine qM.intro okX11_flight (Nat.le_of_ble_eq_true rfl) ?_
  refine j_aload_n rfl rfl ?_
  refine j_getI rfl f_X11_156 rfl (hS.lt (by decide)) (hS.k (by decide) (by decide)) ?_
  refine j_bipush rfl (by decide) ?_
  refine j_icmp_ne (tgt := 12) rfl (by decide) (by omega) (by omega) (by omega) (by omega) (fun hb6_1 => ?_) (fun hb6_1 => ?_)
  · skip
    exfalso
    omega
  · skip
    refine j_bipush rfl (by decide) ?_
    refine j_iret rfl rfl ?_ rfl (Nat.le_refl _)
    exact ⟨rfl, rfl⟩


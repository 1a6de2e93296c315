def ulF (M : AM) : Nat → Int := fun o => if likeX M o then 0 else 1
theorem ulF_same {m M : AM} (h : SameP m M) : ulF M = ulF m := by
  obtain ⟨L, rfl⟩ := h.ex
  rfl
theorem ulF_y {M : AM} {o : Int} (h : 0 ≤ o) (hl : likeX M o) : orL (ulF M) (o + 1).toNat = orL (ulF M) o.toNat := by
  rw [orL_up h, if_neg]
  unfold ulF
  rw [show ((o.toNat : Nat) : Int) = o by omega, if_pos hl]
  decide
theorem ulF_n {M : AM} {o : Int} (h : 0 ≤ o) (hl : ¬ likeX M o) : orL (ulF M) (o + 1).toNat = z_ior (orL (ulF M) o.toNat) (z_ishl 1 o) := by
  rw [orL_up h, if_pos]
  unfold ulF
  rw [show ((o.toNat : Nat) : Int) = o by omega, if_neg hl]
  decide
def faM (N : AM) (b ft : Int) : AM := si (si (si (FX12_keepRun N) 86 43 b) 86 45 (ft / 1000)) 86 44 (ft % 1000)
theorem SameP.fa {m M : AM} (h : SameP m M) (b ft : Int) : SameP (faM m b ft) (faM M b ft) := ((h.keepR.si _ _ _).si _ _ _).si _ _ _
def farE (m : AM) (b f n ft : Int) : AM := aiM (roM (faM (roM (aiM m) f n) b ft) f n)
/-- far() of the reference -/
def farR (m : AM) (b f n ft : Int) : Int × AM := if (0 ≤ b ∧ b < mi m 86 1) ∧ (0 ≤ f ∧ f < mi m 86 21) ∧ (1 ≤ n ∧ n ≤ 200) ∧ 0 ≤ ft ∧ (1 ≤ ft / 1000 ∧ ft / 1000 ≤ 9) ∧ ft % 1000 < 200 then (orL (ulF (farE m b f n ft)) (mi (farE m b f n ft) 86 1).toNat, farE m b f n ft) else (-1, m)

set_option maxRecDepth 20000 in
set_option maxHeartbeats 4000000 in
theorem lp_far_112 {G : QW} {m : AM} {b f n ft : Int} {Rp : Option Vl → AM → Prop} (hS : St m) (hI : IM m) (hfin : Rp (some (vI (orL (ulF m) (mi m 86 1).toNat))) m) : ∀ (c : Nat) (o : Int), o + c = mi m 86 1 → 0 ≤ o → qJ G mX12_far { frames := 7, cells := 0, slots := 0, locals := 60 * 7 } (qF G Rp 0 0) 112 [(0, vR 86), (1, vI b), (2, vI f), (3, vI n), (4, vI ft), (5, vI (orL (ulF m) o.toNat)), (6, vI o)] [] m 0 0 := by
  have hbx := hI.s 86 1 0 6 (by decide)
  intro c
  induction c with
  | zero =>
    intro o hc hv0
    have hor := orL_rng (ulF m) o.toNat
    refine j_iload rfl rfl ?_
    refine j_aload_n rfl rfl ?_
    refine j_getI rfl f_X12_191 rfl (hS.lt (by decide)) (hS.k (by decide) (by decide)) ?_
    have u115_1 := hI.s 86 1 (0) 6 (by decide)
    refine j_icmp_ge (tgt := 145) rfl (by decide) (by omega) (by omega) (by omega) (by omega) (fun hb118_1 => ?_) (fun hb118_1 => ?_)
    · skip
      refine j_iload rfl rfl ?_
      refine j_iret rfl rfl ?_ rfl (Nat.le_refl _)
      rw [show o = mi m 86 1 by omega]; exact hfin
    · skip
      exfalso; omega
  | succ c ih =>
    intro o hc hv0
    have hor := orL_rng (ulF m) o.toNat
    refine j_iload rfl rfl ?_
    refine j_aload_n rfl rfl ?_
    refine j_getI rfl f_X12_191 rfl (hS.lt (by decide)) (hS.k (by decide) (by decide)) ?_
    have u115_1 := hI.s 86 1 (0) 6 (by decide)
    refine j_icmp_ge (tgt := 145) rfl (by decide) (by omega) (by omega) (by omega) (by omega) (fun hb118_1 => ?_) (fun hb118_1 => ?_)
    · skip
      exfalso; omega
    · skip
      refine j_aload_n rfl rfl ?_
      refine j_iload rfl rfl ?_
      refine j_callV (ci := 12) rfl okX12_isUnlike c_X12_446 (ct_X12_isUnlike hS hI (by omega) (by omega)) rfl rfl (hS.lt (by decide)) (hS.k (by decide) (by decide)) (by decide) rfl (Nat.le_of_ble_eq_true rfl) (by decide) (by decide) ?_
      rintro vq mq ⟨e1, e2⟩
      rw [e1, e2]
      clear e1 e2
      simp only [Option.toList_some, Option.toList_none, List.cons_append, List.nil_append]
      refine j_bif_eq (tgt := 139) rfl (by decide) (fun hb127_1 => ?_) (fun hb127_1 => ?_)
      · skip
        refine j_iinc rfl rfl (by decide) ?_
        refine j_goto (tgt := 112) rfl (by decide) ?_
        have hu : (orL (ulF m) o.toNat) = orL (ulF m) (o + 1).toNat := by first | (rw [ulF_n hv0 hb127_1]; done) | (rw [ulF_y hv0 (Decidable.of_not_not hb127_1)]; done)
        rw [hu]
        refine j_loc (ls' := [(0, vR 86), (1, vI b), (2, vI f), (3, vI n), (4, vI ft), (5, vI (orL (ulF m) (o + 1).toNat)), (6, vI (o + 1))]) rfl ?_
        exact ih (o + 1) (by omega) (by omega)
      · skip
        refine j_iload rfl rfl ?_
        refine j_iconst rfl ?_
        refine j_iload rfl rfl ?_
        refine j_ishl rfl ?_
        have z135_1 := z_ishl_rng 1 o
        refine j_ior rfl ?_
        have z136_1 := z_ior_rng (orL (ulF m) o.toNat) (z_ishl 1 o)
        refine j_istore rfl (by decide) ?_
        refine j_iinc rfl rfl (by decide) ?_
        refine j_goto (tgt := 112) rfl (by decide) ?_
        have hu : z_ior (orL (ulF m) o.toNat) (z_ishl 1 o) = orL (ulF m) (o + 1).toNat := by first | (rw [ulF_n hv0 hb127_1]; done) | (rw [ulF_y hv0 (Decidable.of_not_not hb127_1)]; done)
        rw [hu]
        refine j_loc (ls' := [(0, vR 86), (1, vI b), (2, vI f), (3, vI n), (4, vI ft), (5, vI (orL (ulF m) (o + 1).toNat)), (6, vI (o + 1))]) rfl ?_
        exact ih (o + 1) (by omega) (by omega)

set_option maxRecDepth 20000 in
set_option maxHeartbeats 4000000 in
theorem ct_X12_far {G : QW} {m : AM} {b f n ft : Int} (h : RI m) (hb1 : -2147483648 ≤ b) (hb2 : b < 2147483648) (hf1 : -2147483648 ≤ f) (hf2 : f < 2147483648) (hn1 : -2147483648 ≤ n) (hn2 : n < 2147483648) (hft1 : -2147483648 ≤ ft) (hft2 : ft < 2147483648) : qM G mX12_far 7 0 0 [vR 86, vI b, vI f, vI n, vI ft] m (fun r m' => r = some (vI (farR m b f n ft).1) ∧ SameP (farR m b f n ft).2 m') := by
  refine qM.intro okX12_far (Nat.le_of_ble_eq_true rfl) ?_
  have hS := h.s
  have hI := h.i
  have hfl := hI.s 86 21 0 8 (by decide)
  have hbx := hI.s 86 1 0 6 (by decide)
  refine j_aload_n rfl rfl ?_
  refine j_iload_n rfl rfl ?_
  refine j_callV (ci := 12) rfl okX12_isBox c_X12_198 (ct_X12_isBox hS hI (by omega) (by omega)) rfl rfl (hS.lt (by decide)) (hS.k (by decide) (by decide)) (by decide) rfl (Nat.le_of_ble_eq_true rfl) (by decide) (by decide) ?_
  rintro vq mq ⟨e1, e2⟩
  rw [e1, e2]
  clear e1 e2
  simp only [Option.toList_some, Option.toList_none, List.cons_append, List.nil_append]
  have w1 := hI.s 86 1 (0) 6 (by decide)
  refine j_bif_eq (tgt := 55) rfl (by decide) (fun hb5_1 => ?_) (fun hb5_1 => ?_)
  · skip
    refine j_iconst rfl ?_
    refine j_iret rfl rfl ?_ rfl (Nat.le_refl _)
    exact ⟨by unfold farR; rw [if_neg (by omega)], by unfold farR; rw [if_neg (by omega)]; exact SameP.rf m⟩
  · skip
    refine j_aload_n rfl rfl ?_
    refine j_iload_n rfl rfl ?_
    refine j_callV (ci := 12) rfl okX12_isFlight c_X12_270 (ct_X12_isFlight hS hI (by omega) (by omega)) rfl rfl (hS.lt (by decide)) (hS.k (by decide) (by decide)) (by decide) rfl (Nat.le_of_ble_eq_true rfl) (by decide) (by decide) ?_
    rintro vq mq ⟨e1, e2⟩
    rw [e1, e2]
    clear e1 e2
    simp only [Option.toList_some, Option.toList_none, List.cons_append, List.nil_append]
    have w2 := hI.s 86 21 (0) 8 (by decide)
    refine j_bif_eq (tgt := 55) rfl (by decide) (fun hb13_1 => ?_) (fun hb13_1 => ?_)
    · skip
      refine j_iconst rfl ?_
      refine j_iret rfl rfl ?_ rfl (Nat.le_refl _)
      exact ⟨by unfold farR; rw [if_neg (by omega)], by unfold farR; rw [if_neg (by omega)]; exact SameP.rf m⟩
    · skip
      refine j_iload_n rfl rfl ?_
      refine j_callS (As := [_]) rfl okX12_isTicks c_X12_383 (ct_X12_isTicks (by omega) (by omega)) rfl rfl (Nat.le_of_ble_eq_true rfl) (by decide) (by decide) ?_
      rintro vq mq ⟨e1, e2⟩
      rw [e1, e2]
      clear e1 e2
      simp only [Option.toList_some, Option.toList_none, List.cons_append, List.nil_append]
      refine j_bif_eq (tgt := 55) rfl (by decide) (fun hb20_1 => ?_) (fun hb20_1 => ?_)
      · skip
        refine j_iconst rfl ?_
        refine j_iret rfl rfl ?_ rfl (Nat.le_refl _)
        exact ⟨by unfold farR; rw [if_neg (by omega)], by unfold farR; rw [if_neg (by omega)]; exact SameP.rf m⟩
      · skip
        refine j_iload rfl rfl ?_
        refine j_if_lt (tgt := 55) rfl (by decide) (by omega) (by omega) (fun hb25_1 => ?_) (fun hb25_1 => ?_)
        · skip
          refine j_iconst rfl ?_
          refine j_iret rfl rfl ?_ rfl (Nat.le_refl _)
          exact ⟨by unfold farR; rw [if_neg (by omega)], by unfold farR; rw [if_neg (by omega)]; exact SameP.rf m⟩
        · skip
          refine j_iload rfl rfl ?_
          refine j_sipush rfl (by decide) ?_
          refine j_idivN rfl (by omega) (by omega) (by omega) (by omega) ?_
          refine j_iconst rfl ?_
          refine j_bipush rfl (by decide) ?_
          refine j_callS (As := [_, _, _]) rfl okX12_in c_X12_194 (ct_X12_in (by omega) (by omega) (by omega) (by omega) (by omega) (by omega)) rfl rfl (Nat.le_of_ble_eq_true rfl) (by decide) (by decide) ?_
          rintro vq mq ⟨e1, e2⟩
          rw [e1, e2]
          clear e1 e2
          simp only [Option.toList_some, Option.toList_none, List.cons_append, List.nil_append]
          refine j_bif_eq (tgt := 55) rfl (by decide) (fun hb40_1 => ?_) (fun hb40_1 => ?_)
          · skip
            refine j_iconst rfl ?_
            refine j_iret rfl rfl ?_ rfl (Nat.le_refl _)
            exact ⟨by unfold farR; rw [if_neg (by omega)], by unfold farR; rw [if_neg (by omega)]; exact SameP.rf m⟩
          · skip
            refine j_iload rfl rfl ?_
            refine j_sipush rfl (by decide) ?_
            refine j_iremN rfl (by omega) (by omega) (by omega) (by omega) ?_
            refine j_sipush rfl (by decide) ?_
            refine j_icmp_lt (tgt := 57) rfl (by decide) (by omega) (by omega) (by omega) (by omega) (fun hb52_1 => ?_) (fun hb52_1 => ?_)
            · skip
              refine j_aload_n rfl rfl ?_
              refine j_callV (ci := 12) rfl okX12_asItIs c_X12_386 (ct_X12_asIs h) rfl rfl (hS.lt (by decide)) (hS.k (by decide) (by decide)) (by decide) rfl (Nat.le_of_ble_eq_true rfl) (by decide) (by decide) ?_
              rintro vq mq ⟨e1, e2⟩
              rw [e1, e2]
              clear e1 e2
              simp only [Option.toList_some, Option.toList_none, List.cons_append, List.nil_append]
              refine j_aload_n rfl rfl ?_
              refine j_iload_n rfl rfl ?_
              refine j_iload_n rfl rfl ?_
              refine j_callV (ci := 12) rfl okX12_runOf c_X12_389 (ct_X12_runOfI h.asIs (by omega) (by omega) (by omega) (by omega)) rfl rfl (hS.lt (by decide)) (hS.k (by decide) (by decide)) (by decide) rfl (Nat.le_of_ble_eq_true rfl) (by decide) (by decide) ?_
              rintro vq M1 ⟨e1, hs1⟩
              rw [e1]
              clear e1
              simp only [Option.toList_some, Option.toList_none, List.cons_append, List.nil_append]
              have hR1 := (h.asIs.run (f := f) (n := n) (by omega) (by omega)).of hs1
              refine j_aload_n rfl rfl ?_
              refine j_callV (ci := 12) rfl okX12_keepRun c_X12_443 (ct_X12_keepRun hR1.s hR1.i hR1.2.1.1) rfl rfl (hR1.s.lt (by decide)) (hR1.s.k (by decide) (by decide)) (by decide) rfl (Nat.le_of_ble_eq_true rfl) (by decide) (by decide) ?_
              rintro vq mq ⟨e1, e2⟩
              rw [e1, e2]
              clear e1 e2
              simp only [Option.toList_some, Option.toList_none, List.cons_append, List.nil_append]
              refine j_aload_n rfl rfl ?_
              refine j_iload_n rfl rfl ?_
              refine j_putI rfl f_X12_303 rfl (hR1.s.lt (by decide)) (hR1.s.k (by decide) (by decide)) ?_
              refine j_aload_n rfl rfl ?_
              refine j_iload rfl rfl ?_
              refine j_sipush rfl (by decide) ?_
              refine j_idivN rfl (by omega) (by omega) (by omega) (by omega) ?_
              refine j_putI rfl f_X12_367 rfl (hR1.s.lt (by decide)) (hR1.s.k (by decide) (by decide)) ?_
              refine j_aload_n rfl rfl ?_
              refine j_iload rfl rfl ?_
              refine j_sipush rfl (by decide) ?_
              refine j_iremN rfl (by omega) (by omega) (by omega) (by omega) ?_
              refine j_putI rfl f_X12_364 rfl (hR1.s.lt (by decide)) (hR1.s.k (by decide) (by decide)) ?_
              have hR2 : RI (si (si (si (FX12_keepRun M1) 86 43 b) 86 45 (ft / 1000)) 86 44 (ft % 1000)) := ((hR1.keepR.own (k := 43) b (by decide) (by decide)).failBy (by omega) (by omega)).own (k := 44) _ (by decide) (by decide)
              refine j_aload_n rfl rfl ?_
              refine j_iload_n rfl rfl ?_
              refine j_iload_n rfl rfl ?_
              refine j_callV (ci := 12) rfl okX12_runOf c_X12_389 (ct_X12_runOfI hR2 (by omega) (by omega) (by omega) (by omega)) rfl rfl (hR1.s.lt (by decide)) (hR1.s.k (by decide) (by decide)) (by decide) rfl (Nat.le_of_ble_eq_true rfl) (by decide) (by decide) ?_
              rintro vq M2 ⟨e1, hs2⟩
              rw [e1]
              clear e1
              simp only [Option.toList_some, Option.toList_none, List.cons_append, List.nil_append]
              have hR3 := (hR2.run (f := f) (n := n) (by omega) (by omega)).of hs2
              refine j_aload_n rfl rfl ?_
              refine j_callV (ci := 12) rfl okX12_asItIs c_X12_386 (ct_X12_asIs hR3) rfl rfl (hR3.s.lt (by decide)) (hR3.s.k (by decide) (by decide)) (by decide) rfl (Nat.le_of_ble_eq_true rfl) (by decide) (by decide) ?_
              rintro vq mq ⟨e1, e2⟩
              rw [e1, e2]
              clear e1 e2
              simp only [Option.toList_some, Option.toList_none, List.cons_append, List.nil_append]
              refine j_iconst rfl ?_
              refine j_istore rfl (by decide) ?_
              refine j_iconst rfl ?_
              refine j_istore rfl (by decide) ?_
              have hE : SameP (farE m b f n ft) (aiM M2) := ((roM_same (hs1.fa b ft) f n).trans hs2).asIs
              refine j_loc (ls' := [(0, vR 86), (1, vI b), (2, vI f), (3, vI n), (4, vI ft), (5, vI 0), (6, vI 0)]) rfl ?_
              refine lp_far_112 hR3.asIs.s hR3.asIs.i ?_ (mi (aiM M2) 86 1).toNat 0 ?_ (Int.le_refl 0)
              · rw [ulF_same hE, hE.mi 86 1]; exact ⟨by unfold farR; rw [if_pos (by omega)], by unfold farR; rw [if_pos (by omega)]; exact hE⟩
              · have := hR3.asIs.i.s 86 1 0 6 (by decide); omega
            · skip
              refine j_iconst rfl ?_
              refine j_iret rfl rfl ?_ rfl (Nat.le_refl _)
              exact ⟨by unfold farR; rw [if_neg (by omega)], by unfold farR; rw [if_neg (by omega)]; exact SameP.rf m⟩


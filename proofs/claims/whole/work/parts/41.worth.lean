theorem aiM_mi (m : AM) {o j : Nat} (h : o ≠ 86 ∨ (j ≠ 43 ∧ j ≠ 46 ∧ j ≠ 48)) : mi (aiM m) o j = mi m o j := by
  unfold aiM
  rw [mi_si_ne _ _ (by rintro ⟨rfl, rfl⟩; omega), mi_si_ne _ _ (by rintro ⟨rfl, rfl⟩; omega), mi_si_ne _ _ (by rintro ⟨rfl, rfl⟩; omega)]
/-- the flights of a set at which a twin would have stayed: how many so far -/
def wrL (t bt fs n : Int) : Nat → Int → Int → AM → Int × AM
  | 0, _, a, N => (a, N)
  | c + 1, f, a, N =>
    if z_iand (z_ishr fs f) 1 = 0 then wrL t bt fs n c (f + 1) a N
    else wrL t bt fs n c (f + 1) (a + (if mi (roM N f n) 111 bt.toNat ≠ 0 ∧ mi (roM N f n) 111 t.toNat = 0 then 1 else 0)) (roM N f n)
/-- worth() of the reference -/
def worR (m : AM) (t fs n : Int) : Int × AM :=
  if (0 ≤ t ∧ t < mi m 86 1) ∧ mi m 87 t.toNat = 1 ∧ (0 ≤ fs ∧ z_ishr fs (mi m 86 21) = 0) ∧ (1 ≤ n ∧ n ≤ 200) then
    if mi m 90 t.toNat < 0 then (-5, m) else wrL t (mi m 90 t.toNat) fs n (mi m 86 21).toNat 0 0 (aiM m)
  else (-1, m)

set_option maxRecDepth 20000 in
set_option maxHeartbeats 4000000 in
theorem lp_worth_57 {G : QW} {m : AM} {t bt fs n : Int} {E : Int × AM} (ht0 : 0 ≤ t) (ht5 : t ≤ 5) (hb0 : 0 ≤ bt) (hb5 : bt ≤ 5) (hbt : mi m 90 t.toNat = bt) (hn0 : 1 ≤ n) (hn : n ≤ 200) (hfs0 : 0 ≤ fs) (hfs1 : fs < 2147483648) (hfl : mi m 86 21 ≤ 8) : ∀ (c : Nat) (f a : Int) (N M : AM), f + c = mi m 86 21 → 0 ≤ f → FR m N → RI N → SameP N M → 0 ≤ a → a ≤ f → wrL t bt fs n c f a N = E → qJ G mX12_worth { frames := 6, cells := 0, slots := 0, locals := 60 * 6 } (qF G (fun r m' => r = some (vI E.1) ∧ SameP E.2 m') 0 0) 57 [(0, vR 86), (1, vI t), (2, vI fs), (3, vI n), (4, vI a), (5, vI f)] [] M 0 0 := by
  intro c
  induction c with
  | zero =>
    intro f a N M hc hf0 hfr hRN hs ha0 ha hE
    have hRM := hRN.of hs
    have hS := hRM.s
    have hI := hRM.i
    have e21 : mi M 86 21 = mi m 86 21 := (hs.mi 86 21).trans (hfr.cell (by decide) (by omega))
    have hE : (a, N) = E := hE
    refine j_iload rfl rfl ?_
    refine j_aload_n rfl rfl ?_
    refine j_getI rfl f_X12_267 rfl (hS.lt (by decide)) (hS.k (by decide) (by decide)) ?_
    have u60_1 := hI.s 86 21 (0) 8 (by decide)
    refine j_icmp_ge (tgt := 124) rfl (by decide) (by omega) (by omega) (by omega) (by omega) (fun hb63_1 => ?_) (fun hb63_1 => ?_)
    · skip
      refine j_iload rfl rfl ?_
      refine j_iret rfl rfl ?_ rfl (Nat.le_refl _)
      subst hE
      exact ⟨rfl, hs⟩
    · skip
      exfalso; omega
  | succ c ih =>
    intro f a N M hc hf0 hfr hRN hs ha0 ha hE
    have hRM := hRN.of hs
    have hS := hRM.s
    have hI := hRM.i
    have e21 : mi M 86 21 = mi m 86 21 := (hs.mi 86 21).trans (hfr.cell (by decide) (by omega))
    simp only [wrL] at hE
    refine j_iload rfl rfl ?_
    refine j_aload_n rfl rfl ?_
    refine j_getI rfl f_X12_267 rfl (hS.lt (by decide)) (hS.k (by decide) (by decide)) ?_
    have u60_1 := hI.s 86 21 (0) 8 (by decide)
    refine j_icmp_ge (tgt := 124) rfl (by decide) (by omega) (by omega) (by omega) (by omega) (fun hb63_1 => ?_) (fun hb63_1 => ?_)
    · skip
      exfalso; omega
    · skip
      refine j_iload_n rfl rfl ?_
      refine j_iload rfl rfl ?_
      refine j_ishr rfl ?_
      have z69_1 := z_ishr_rng fs f
      refine j_iconst rfl ?_
      refine j_iand rfl ?_
      have z71_1 := z_iand_rng (z_ishr fs f) 1
      refine j_if_ne (tgt := 78) rfl (by decide) (by omega) (by omega) (fun hb72_1 => ?_) (fun hb72_1 => ?_)
      · skip
        refine j_aload_n rfl rfl ?_
        refine j_iload rfl rfl ?_
        refine j_iload_n rfl rfl ?_
        refine j_callV (ci := 12) rfl okX12_runOf c_X12_389 (ct_X12_runOfI hRM (by omega) (by omega) (by omega) (by omega)) rfl rfl (hS.lt (by decide)) (hS.k (by decide) (by decide)) (by decide) rfl (Nat.le_of_ble_eq_true rfl) (by decide) (by decide) ?_
        rintro vq M2 ⟨e1, hs2⟩
        rw [e1]
        clear e1
        simp only [Option.toList_some, Option.toList_none, List.cons_append, List.nil_append]
        have g : SameP (roM N f n) M2 := (roM_same hs f n).trans hs2
        have hRN2 : RI (roM N f n) := hRN.run (by omega) (by omega)
        have hR2 := hRN2.of g
        have hF2 : FR m (roM N f n) := hfr.run f n
        have e90 : mi M2 90 t.toNat = bt := (g.mi 90 _).trans ((hF2.cell (by decide) (by omega)).trans hbt)
        refine j_iload rfl rfl ?_
        refine j_aload_n rfl rfl ?_
        refine j_getR (q := 111) rfl f_X12_84 rfl (hR2.s.lt (by decide)) (hR2.s.k (by decide) (by decide)) (hR2.s.r (by decide)) ?_
        refine j_aload_n rfl rfl ?_
        refine j_getR (q := 90) rfl f_X12_19 rfl (hR2.s.lt (by decide)) (hR2.s.k (by decide) (by decide)) (hR2.s.r (by decide)) ?_
        refine j_iload_n rfl rfl ?_
        refine j_iald (n := 6) rfl (hR2.s.lt (by decide)) (hR2.s.k (by decide) (by decide)) (hR2.s.n (by decide) (by decide)) (by omega) (by omega) (by decide) ?_
        have u96_1 := hR2.i.a 90 (-1) 5 (by decide) t.toNat
        refine j_zald (n := 6) rfl (hR2.s.lt (by decide)) (hR2.s.k (by decide) (by decide)) (hR2.s.n (by decide) (by decide)) (by omega) (by omega) (by decide) ?_
        have u97_1 := mi_rng M2 111 (mi M2 90 t.toNat).toNat
        refine j_if_eq (tgt := 114) rfl (by decide) (by omega) (by omega) (fun hb98_1 => ?_) (fun hb98_1 => ?_)
        · skip
          refine j_iconst rfl ?_
          refine j_iadd rfl ?_
          refine j_istore rfl (by decide) ?_
          refine j_iinc rfl rfl (by decide) ?_
          refine j_goto (tgt := 57) rfl (by decide) ?_
          have hu : a + 0 = a + (if mi (roM N f n) 111 bt.toNat ≠ 0 ∧ mi (roM N f n) 111 t.toNat = 0 then 1 else 0) := by rw [← g.mi 111, ← g.mi 111 t.toNat, ← e90]; first | (rw [if_pos (by omega)]; done) | (rw [if_neg (by omega)]; done)
          rw [hu]
          refine j_loc (ls' := [(0, vR 86), (1, vI t), (2, vI fs), (3, vI n), (4, vI (a + (if mi (roM N f n) 111 bt.toNat ≠ 0 ∧ mi (roM N f n) 111 t.toNat = 0 then 1 else 0))), (5, vI (f + 1))]) rfl ?_
          rw [if_neg (by omega)] at hE
          exact ih (f + 1) _ (roM N f n) M2 (by omega) (by omega) hF2 hRN2 g (by split <;> omega) (by split <;> omega) hE
        · skip
          refine j_aload_n rfl rfl ?_
          refine j_getR (q := 111) rfl f_X12_84 rfl (hR2.s.lt (by decide)) (hR2.s.k (by decide) (by decide)) (hR2.s.r (by decide)) ?_
          refine j_iload_n rfl rfl ?_
          refine j_zald (n := 6) rfl (hR2.s.lt (by decide)) (hR2.s.k (by decide) (by decide)) (hR2.s.n (by decide) (by decide)) (by omega) (by omega) (by decide) ?_
          have u106_1 := mi_rng M2 111 t.toNat
          refine j_if_ne (tgt := 114) rfl (by decide) (by omega) (by omega) (fun hb107_1 => ?_) (fun hb107_1 => ?_)
          · skip
            refine j_iconst rfl ?_
            refine j_iadd rfl ?_
            refine j_istore rfl (by decide) ?_
            refine j_iinc rfl rfl (by decide) ?_
            refine j_goto (tgt := 57) rfl (by decide) ?_
            have hu : a + 0 = a + (if mi (roM N f n) 111 bt.toNat ≠ 0 ∧ mi (roM N f n) 111 t.toNat = 0 then 1 else 0) := by rw [← g.mi 111, ← g.mi 111 t.toNat, ← e90]; first | (rw [if_pos (by omega)]; done) | (rw [if_neg (by omega)]; done)
            rw [hu]
            refine j_loc (ls' := [(0, vR 86), (1, vI t), (2, vI fs), (3, vI n), (4, vI (a + (if mi (roM N f n) 111 bt.toNat ≠ 0 ∧ mi (roM N f n) 111 t.toNat = 0 then 1 else 0))), (5, vI (f + 1))]) rfl ?_
            rw [if_neg (by omega)] at hE
            exact ih (f + 1) _ (roM N f n) M2 (by omega) (by omega) hF2 hRN2 g (by split <;> omega) (by split <;> omega) hE
          · skip
            refine j_iconst rfl ?_
            refine j_goto (tgt := 115) rfl (by decide) ?_
            refine j_iadd rfl ?_
            refine j_istore rfl (by decide) ?_
            refine j_iinc rfl rfl (by decide) ?_
            refine j_goto (tgt := 57) rfl (by decide) ?_
            have hu : a + 1 = a + (if mi (roM N f n) 111 bt.toNat ≠ 0 ∧ mi (roM N f n) 111 t.toNat = 0 then 1 else 0) := by rw [← g.mi 111, ← g.mi 111 t.toNat, ← e90]; first | (rw [if_pos (by omega)]; done) | (rw [if_neg (by omega)]; done)
            rw [hu]
            refine j_loc (ls' := [(0, vR 86), (1, vI t), (2, vI fs), (3, vI n), (4, vI (a + (if mi (roM N f n) 111 bt.toNat ≠ 0 ∧ mi (roM N f n) 111 t.toNat = 0 then 1 else 0))), (5, vI (f + 1))]) rfl ?_
            rw [if_neg (by omega)] at hE
            exact ih (f + 1) _ (roM N f n) M2 (by omega) (by omega) hF2 hRN2 g (by split <;> omega) (by split <;> omega) hE
      · skip
        refine j_goto (tgt := 118) rfl (by decide) ?_
        refine j_iinc rfl rfl (by decide) ?_
        refine j_goto (tgt := 57) rfl (by decide) ?_
        refine j_loc (ls' := [(0, vR 86), (1, vI t), (2, vI fs), (3, vI n), (4, vI a), (5, vI (f + 1))]) rfl ?_
        rw [if_pos (by omega)] at hE
        exact ih (f + 1) a N M (by omega) (by omega) hfr hRN hs ha0 (by omega) hE

set_option maxRecDepth 20000 in
set_option maxHeartbeats 4000000 in
theorem ct_X12_worth {G : QW} {m : AM} {t fs n : Int} (h : RI m) (ht1 : -2147483648 ≤ t) (ht2 : t < 2147483648) (hfs1 : -2147483648 ≤ fs) (hfs2 : fs < 2147483648) (hn1 : -2147483648 ≤ n) (hn2 : n < 2147483648) : qM G mX12_worth 6 0 0 [vR 86, vI t, vI fs, vI n] m (fun r m' => r = some (vI (worR m t fs n).1) ∧ SameP (worR m t fs n).2 m') := by
  refine qM.intro okX12_worth (Nat.le_of_ble_eq_true rfl) ?_
  have hS := h.s
  have hI := h.i
  have hfl := hI.s 86 21 0 8 (by decide)
  have hbx := hI.s 86 1 0 6 (by decide)
  refine j_aload_n rfl rfl ?_
  refine j_iload_n rfl rfl ?_
  refine j_callV (ci := 12) rfl okX12_isBox c_X12_198 (ct_X12_isBox hS hI (by omega) (by omega)) rfl rfl (hS.lt (by decide)) (hS.k (by decide) (by decide)) (by decide) rfl (Nat.le_of_ble_eq_true rfl) (by decide) (by decide) ?_
  rintro vq mq ⟨e1, e2⟩
  rw [e1, e2]
  clear e1 e2
  simp only [Option.toList_some, Option.toList_none, List.cons_append, List.nil_append]
  have w1 := hI.s 86 1 (0) 6 (by decide)
  refine j_bif_eq (tgt := 33) rfl (by decide) (fun hb5_1 => ?_) (fun hb5_1 => ?_)
  · skip
    refine j_iconst rfl ?_
    refine j_iret rfl rfl ?_ rfl (Nat.le_refl _)
    exact ⟨by unfold worR; rw [if_neg (by omega)], by unfold worR; rw [if_neg (by omega)]; exact SameP.rf m⟩
  · skip
    refine j_aload_n rfl rfl ?_
    refine j_getR (q := 87) rfl f_X12_7 rfl (hS.lt (by decide)) (hS.k (by decide) (by decide)) (hS.r (by decide)) ?_
    refine j_iload_n rfl rfl ?_
    refine j_iald (n := 6) rfl (hS.lt (by decide)) (hS.k (by decide) (by decide)) (hS.n (by decide) (by decide)) (by omega) (by omega) (by decide) ?_
    have u13_1 := hI.a 87 (0) 6 (by decide) t.toNat
    refine j_iconst rfl ?_
    refine j_icmp_ne (tgt := 33) rfl (by decide) (by omega) (by omega) (by omega) (by omega) (fun hb15_1 => ?_) (fun hb15_1 => ?_)
    · skip
      refine j_iconst rfl ?_
      refine j_iret rfl rfl ?_ rfl (Nat.le_refl _)
      exact ⟨by unfold worR; rw [if_neg (by omega)], by unfold worR; rw [if_neg (by omega)]; exact SameP.rf m⟩
    · skip
      refine j_aload_n rfl rfl ?_
      refine j_iload_n rfl rfl ?_
      refine j_callV (ci := 12) rfl okX12_areFlights c_X12_449 (ct_X12_areFlights hS hI (by omega) (by omega)) rfl rfl (hS.lt (by decide)) (hS.k (by decide) (by decide)) (by decide) rfl (Nat.le_of_ble_eq_true rfl) (by decide) (by decide) ?_
      rintro vq mq ⟨e1, e2⟩
      rw [e1, e2]
      clear e1 e2
      simp only [Option.toList_some, Option.toList_none, List.cons_append, List.nil_append]
      have w2 := hI.s 86 21 (0) 8 (by decide)
      refine j_bif_eq (tgt := 33) rfl (by decide) (fun hb23_1 => ?_) (fun hb23_1 => ?_)
      · skip
        refine j_iconst rfl ?_
        refine j_iret rfl rfl ?_ rfl (Nat.le_refl _)
        exact ⟨by unfold worR; rw [if_neg (by omega)], by unfold worR; rw [if_neg (by omega)]; exact SameP.rf m⟩
      · skip
        refine j_iload_n rfl rfl ?_
        refine j_callS (As := [_]) rfl okX12_isTicks c_X12_383 (ct_X12_isTicks (by omega) (by omega)) rfl rfl (Nat.le_of_ble_eq_true rfl) (by decide) (by decide) ?_
        rintro vq mq ⟨e1, e2⟩
        rw [e1, e2]
        clear e1 e2
        simp only [Option.toList_some, Option.toList_none, List.cons_append, List.nil_append]
        refine j_bif_ne (tgt := 35) rfl (by decide) (fun hb30_1 => ?_) (fun hb30_1 => ?_)
        · skip
          refine j_aload_n rfl rfl ?_
          refine j_getR (q := 90) rfl f_X12_19 rfl (hS.lt (by decide)) (hS.k (by decide) (by decide)) (hS.r (by decide)) ?_
          refine j_iload_n rfl rfl ?_
          refine j_iald (n := 6) rfl (hS.lt (by decide)) (hS.k (by decide) (by decide)) (hS.n (by decide) (by decide)) (by omega) (by omega) (by decide) ?_
          have u40_1 := hI.a 90 (-1) 5 (by decide) t.toNat
          refine j_if_ge (tgt := 47) rfl (by decide) (by omega) (by omega) (fun hb41_1 => ?_) (fun hb41_1 => ?_)
          · skip
            refine j_aload_n rfl rfl ?_
            refine j_callV (ci := 12) rfl okX12_asItIs c_X12_386 (ct_X12_asIs h) rfl rfl (hS.lt (by decide)) (hS.k (by decide) (by decide)) (by decide) rfl (Nat.le_of_ble_eq_true rfl) (by decide) (by decide) ?_
            rintro vq mq ⟨e1, e2⟩
            rw [e1, e2]
            clear e1 e2
            simp only [Option.toList_some, Option.toList_none, List.cons_append, List.nil_append]
            refine j_iconst rfl ?_
            refine j_istore rfl (by decide) ?_
            refine j_iconst rfl ?_
            refine j_istore rfl (by decide) ?_
            refine j_loc (ls' := [(0, vR 86), (1, vI t), (2, vI fs), (3, vI n), (4, vI 0), (5, vI 0)]) rfl ?_
            have e : worR m t fs n = wrL t (mi m 90 t.toNat) fs n (mi m 86 21).toNat 0 0 (aiM m) := by unfold worR; rw [if_pos (by omega), if_neg (by omega)]
            rw [e]
            have e90 := aiM_mi m (o := 90) (j := t.toNat) (by omega)
            have e21 := aiM_mi m (o := 86) (j := 21) (by omega)
            exact lp_worth_57 (m := aiM m) (t := t) (bt := mi m 90 t.toNat) (by omega) (by omega) (by omega) (by omega) e90 (by omega) (by omega) (by omega) (by omega) (by omega) (mi m 86 21).toNat 0 0 (aiM m) (aiM m) (by omega) (Int.le_refl 0) (FR.rf _) h.asIs (SameP.rf _) (Int.le_refl 0) (Int.le_refl 0) rfl
          · skip
            refine j_bipush rfl (by decide) ?_
            refine j_iret rfl rfl ?_ rfl (Nat.le_refl _)
            exact ⟨by unfold worR; rw [if_pos (by omega), if_pos (by omega)], by unfold worR; rw [if_pos (by omega), if_pos (by omega)]; exact SameP.rf m⟩
        · skip
          refine j_iconst rfl ?_
          refine j_iret rfl rfl ?_ rfl (Nat.le_refl _)
          exact ⟨by unfold worR; rw [if_neg (by omega)], by unfold worR; rw [if_neg (by omega)]; exact SameP.rf m⟩


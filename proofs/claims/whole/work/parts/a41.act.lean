/-- the class's memory behind act() -/
def actN (m : AM) (b what : Int) : AM := if (0 ≤ b ∧ b < mi m 86 1) ∧ (0 ≤ what ∧ what ≤ 3) then ranD (actT (mi m 87 b.toNat) what) (si m 22 1 0) else si m 22 1 0

set_option maxRecDepth 20000 in
set_option maxHeartbeats 4000000 in
/-- act() of the class -/
theorem cr_act {G : QW} {m : AM} {b what x : Int} (hT : TB G) (h : QR m) (hb1 : -2147483648 ≤ b) (hb2 : b < 2147483648) (hwhat1 : -2147483648 ≤ what) (hwhat2 : what < 2147483648) : qM G mX11_act 16 0 0 [vR 0, vI b, vI what, vI x] m (fun r N => r = some (vI (actR m b what x).1) ∧ N = actN m b what) := by
  have hS := h.s
  have hI := h.i
  have h16 := hI.s 0 16 0 6 (by decide)
  have h16e : mi m 0 16 = mi m 86 1 := h.2.1.1
  have e16 : mi (si m 22 1 0) 0 16 = mi m 0 16 := mi_si_ne _ _ (by decide)
  have hI1 : IM (si m 22 1 0) := hI.scal 0 100 (by decide) (by decide) (by decide) (by decide) (by decide) (by decide) (by omega) (by decide)
  refine qM.intro okX11_act (Nat.le_of_ble_eq_true rfl) ?_
  refine j_aload_n rfl rfl ?_
  refine j_getR (q := 22) rfl f_X11_58 rfl (hS.lt (by decide)) (hS.k (by decide) (by decide)) (hS.r (by decide)) ?_
  refine j_iconst rfl ?_
  refine j_putI rfl f_X11_356 rfl (hS.lt (by decide)) (hS.k (by decide) (by decide)) ?_
  refine j_aload_n rfl rfl ?_
  refine j_iload_n rfl rfl ?_
  refine j_callV (ci := 11) rfl okX11_isBox c_X11_119 (ct_X11_isBox (m := si m 22 1 0) hS hI1 (by omega) (by omega)) rfl rfl (hS.lt (by decide)) (hS.k (by decide) (by decide)) (by decide) rfl (Nat.le_of_ble_eq_true rfl) (by decide) (by decide) ?_
  rintro vq mq ⟨e1, e2⟩
  rw [e16] at e1
  rw [e1, e2]
  clear e1 e2
  simp only [Option.toList_some, Option.toList_none, List.cons_append, List.nil_append]
  refine j_bif_eq (tgt := 25) rfl (by decide) (fun hb13_1 => ?_) (fun hb13_1 => ?_)
  · skip
    refine j_iconst rfl ?_
    refine j_iret rfl rfl ?_ rfl (Nat.le_refl _)
    have nV : ¬ ((0 ≤ b ∧ b < mi m 86 1) ∧ (0 ≤ what ∧ what ≤ 3)) := fun z => hb13_1 (by rw [h16e]; exact z.1)
    exact ⟨by unfold actR; rw [if_neg nV], by unfold actN; rw [if_neg nV]⟩
  · skip
    refine j_iload_n rfl rfl ?_
    refine j_if_lt (tgt := 25) rfl (by decide) (by omega) (by omega) (fun hb17_1 => ?_) (fun hb17_1 => ?_)
    · skip
      refine j_iconst rfl ?_
      refine j_iret rfl rfl ?_ rfl (Nat.le_refl _)
      have nV : ¬ ((0 ≤ b ∧ b < mi m 86 1) ∧ (0 ≤ what ∧ what ≤ 3)) := fun z => by have := z.2; omega
      exact ⟨by unfold actR; rw [if_neg nV], by unfold actN; rw [if_neg nV]⟩
    · skip
      refine j_iload_n rfl rfl ?_
      refine j_iconst rfl ?_
      refine j_icmp_lt (tgt := 27) rfl (by decide) (by omega) (by omega) (by omega) (by omega) (fun hb22_1 => ?_) (fun hb22_1 => ?_)
      · skip
        have hb : 0 ≤ b ∧ b < mi m 0 16 := hb13_1
        have hV : (0 ≤ b ∧ b < mi m 86 1) ∧ (0 ≤ what ∧ what ≤ 3) := ⟨by rw [← h16e]; exact hb, by omega⟩
        have hB := (h.2.1.2 b hb.1 hV.1.2).1
        have hbr : mr (si m 22 1 0) 3 b.toNat = some (bx m b) := hB.1.1
        have hx := hB.2.1
        have hkd := hI.a 87 0 6 (by decide) b.toNat
        have hln := hI.a 91 0 12 (by decide) b.toNat
        have hA : AY (si m 22 1 0) (bx m b) (pg m b) b (mi m 87 b.toNat) (mi m 91 b.toNat) 0 := ⟨hS, ⟨by rw [mi_si_same _ _ _ (by decide) (by decide)]; decide, by rw [mi_si_same _ _ _ (by decide) (by decide)]; decide⟩, ⟨hB.1.2.1, hB.1.2.2.1, hB.1.2.2.2⟩, hx, ⟨by rw [mi_si_ne _ _ (by omega)]; exact hB.2.2.1.1, by rw [mi_si_ne _ _ (by omega)]; exact hB.2.2.1.2, by rw [mi_si_ne _ _ (by omega)]; exact hB.2.2.2.2.2.2.1⟩, ⟨hb.1, by omega⟩, hkd, hln⟩
        have ec : actR m b what x = (actV (mi m 87 b.toNat) b what x (mi m 91 b.toNat), ranL (actT (mi m 87 b.toNat) what) (si m 86 76 0)) := by unfold actR; rw [if_pos hV]
        have en : actN m b what = ranD (actT (mi m 87 b.toNat) what) (si m 22 1 0) := by unfold actN; rw [if_pos hV]
        refine j_aload_n rfl rfl ?_
        refine j_getR (q := 22) rfl f_X11_58 rfl (hS.lt (by decide)) (hS.k (by decide) (by decide)) (hS.r (by decide)) ?_
        refine j_aload_n rfl rfl ?_
        refine j_getR (q := 3) rfl f_X11_18 rfl (hS.lt (by decide)) (hS.k (by decide) (by decide)) (hS.r (by decide)) ?_
        refine j_iload_n rfl rfl ?_
        refine j_aald (k := 17) (n := 6) (v := (bx m b)) rfl (hS.lt (by decide)) (hS.k (by decide) (by decide)) el17 (hS.n (by decide) (by decide)) (by omega) (by omega) (by decide) hbr ?_
        refine j_iload_n rfl rfl ?_
        refine j_aload_n rfl rfl ?_
        refine j_getR (q := 3) rfl f_X11_18 rfl (hS.lt (by decide)) (hS.k (by decide) (by decide)) (hS.r (by decide)) ?_
        refine j_iload_n rfl rfl ?_
        refine j_aald (k := 17) (n := 6) (v := (bx m b)) rfl (hS.lt (by decide)) (hS.k (by decide) (by decide)) el17 (hS.n (by decide) (by decide)) (by omega) (by omega) (by decide) hbr ?_
        refine j_getI rfl f_X11_359 rfl hA.2.2.1.1.1 hA.2.2.1.1.2.1 ?_
        have u44_1 := mi_rng (si m 22 1 0) (bx m b) 1
        rw [hA.kd_]
        have hw : what = 0 ∨ what = 1 ∨ what = 2 ∨ what = 3 := by omega
        rcases hw with rfl | rfl | rfl | rfl
        · skip
          refine j_iload_n rfl rfl ?_
          refine j_iconst rfl ?_
          refine j_callV (ci := 0) rfl okX0_perform c_X11_362 (ct_P0k (d := 15) hT hA (by decide) (by decide) (by decide)) rfl rfl (hS.lt (by decide)) (hS.k (by decide) (by decide)) (by decide) rfl (Nat.le_of_ble_eq_true rfl) (by decide) (by decide) ?_
          rintro vq mq ⟨e1, e2⟩
          rw [e1]
          clear e1
          simp only [Option.toList_some, Option.toList_none, List.cons_append, List.nil_append]
          refine j_iret rfl rfl ?_ rfl (Nat.le_refl _)
          rw [ec, en]
          exact ⟨rfl, e2⟩
        · skip
          refine j_iload_n rfl rfl ?_
          refine j_iconst rfl ?_
          refine j_callV (ci := 0) rfl okX0_perform c_X11_362 (ct_P1k (d := 15) hT hA (by decide) (by decide) (by decide)) rfl rfl (hS.lt (by decide)) (hS.k (by decide) (by decide)) (by decide) rfl (Nat.le_of_ble_eq_true rfl) (by decide) (by decide) ?_
          rintro vq mq ⟨e1, e2⟩
          rw [e1]
          clear e1
          simp only [Option.toList_some, Option.toList_none, List.cons_append, List.nil_append]
          refine j_iret rfl rfl ?_ rfl (Nat.le_refl _)
          rw [ec, en]
          exact ⟨rfl, e2⟩
        · skip
          refine j_iload_n rfl rfl ?_
          refine j_iconst rfl ?_
          refine j_callV (ci := 0) rfl okX0_perform c_X11_362 (ct_P2k (d := 15) hT hA (by decide) (by decide) (by decide)) rfl rfl (hS.lt (by decide)) (hS.k (by decide) (by decide)) (by decide) rfl (Nat.le_of_ble_eq_true rfl) (by decide) (by decide) ?_
          rintro vq mq ⟨e1, e2⟩
          rw [e1]
          clear e1
          simp only [Option.toList_some, Option.toList_none, List.cons_append, List.nil_append]
          refine j_iret rfl rfl ?_ rfl (Nat.le_refl _)
          rw [ec, en]
          exact ⟨rfl, e2⟩
        · skip
          refine j_iload_n rfl rfl ?_
          refine j_iconst rfl ?_
          refine j_callV (ci := 0) rfl okX0_perform c_X11_362 (ct_P3k (d := 15) hT hA (by decide) (by decide) (by decide)) rfl rfl (hS.lt (by decide)) (hS.k (by decide) (by decide)) (by decide) rfl (Nat.le_of_ble_eq_true rfl) (by decide) (by decide) ?_
          rintro vq mq ⟨e1, e2⟩
          rw [e1]
          clear e1
          simp only [Option.toList_some, Option.toList_none, List.cons_append, List.nil_append]
          refine j_iret rfl rfl ?_ rfl (Nat.le_refl _)
          rw [ec, en]
          exact ⟨rfl, e2⟩
      · skip
        refine j_iconst rfl ?_
        refine j_iret rfl rfl ?_ rfl (Nat.le_refl _)
        have nV : ¬ ((0 ≤ b ∧ b < mi m 86 1) ∧ (0 ≤ what ∧ what ≤ 3)) := fun z => by have := z.2; omega
        exact ⟨by unfold actR; rw [if_neg nV], by unfold actN; rw [if_neg nV]⟩


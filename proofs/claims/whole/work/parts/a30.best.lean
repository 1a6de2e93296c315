/-- the best set of lines to watch; -1: none -/
noncomputable def zBe (m : AM) (b fs tn : Int) : Int := zBo (fun y => outl (Wst m b y) (Fm m) fs (tn % 1000) (mi m 0 17) b) (freC m b) 9 0

set_option maxRecDepth 20000 in
set_option maxHeartbeats 4000000 in
/-- best() of the class -/
theorem cr_best {G : QW} {m : AM} {b fs tn what : Int} (h : QR m) (hk : K0 m) (hb1 : -2147483648 ≤ b) (hb2 : b < 2147483648) (hfs1 : -2147483648 ≤ fs) (hfs2 : fs < 2147483648) (htn1 : -2147483648 ≤ tn) (htn2 : tn < 2147483648) (hwhat1 : -2147483648 ≤ what) (hwhat2 : what < 2147483648) : qM G mX11_best 8 0 0 [vR 0, vI b, vI fs, vI tn, vI what] m (fun r N2 => (((0 ≤ b ∧ b < mi m 0 16) ∧ (0 ≤ fs ∧ z_ishr fs (mi m 0 17) = 0) ∧ 0 ≤ tn ∧ (0 ≤ what ∧ what ≤ 1) ∧ (1 ≤ tn / 1000 ∧ tn / 1000 ≤ 9) ∧ 1 ≤ tn % 1000 ∧ tn % 1000 ≤ 200) → CU m N2 ∧ QR N2 ∧ r = some (vI (beA (zBe m b fs tn) what tn))) ∧ (¬ ((0 ≤ b ∧ b < mi m 0 16) ∧ (0 ≤ fs ∧ z_ishr fs (mi m 0 17) = 0) ∧ 0 ≤ tn ∧ (0 ≤ what ∧ what ≤ 1) ∧ (1 ≤ tn / 1000 ∧ tn / 1000 ≤ 9) ∧ 1 ≤ tn % 1000 ∧ tn % 1000 ≤ 200) → r = some (vI (-1)) ∧ N2 = m)) := by
  have hS := h.s
  have hI := h.i
  have h17 := hI.s 0 17 0 8 (by decide)
  have h16 := hI.s 0 16 0 6 (by decide)
  have hB : 0 ≤ b ∧ b < mi m 0 16 → AgB m (wN m) b := fun q => (h.2.1.2 b q.1 (by rw [← h.2.1.1]; exact q.2)).1
  refine qM.intro okX11_best (Nat.le_of_ble_eq_true rfl) ?_
  refine j_aload_n rfl rfl ?_
  refine j_iload_n rfl rfl ?_
  refine j_callV (ci := 11) rfl okX11_isBox c_X11_119 (ct_X11_isBox hS hI (by omega) (by omega)) rfl rfl (hS.lt (by decide)) (hS.k (by decide) (by decide)) (by decide) rfl (Nat.le_of_ble_eq_true rfl) (by decide) (by decide) ?_
  rintro vq mq ⟨e1, e2⟩
  rw [e1, e2]
  clear e1 e2
  simp only [Option.toList_some, Option.toList_none, List.cons_append, List.nil_append]
  have w1 := hI.s 0 16 (0) 6 (by decide)
  refine j_bif_eq (tgt := 31) rfl (by decide) (fun hb5_1 => ?_) (fun hb5_1 => ?_)
  · skip
    refine j_iconst rfl ?_
    refine j_iret rfl rfl ?_ rfl (Nat.le_refl _)
    exact ⟨fun z => by exfalso; exact hb5_1 z.1, fun _ => ⟨rfl, rfl⟩⟩
  · skip
    refine j_aload_n rfl rfl ?_
    refine j_iload_n rfl rfl ?_
    refine j_callV (ci := 11) rfl okX11_areFlights c_X11_301 (ct_X11_areFlights hS hI (by omega) (by omega)) rfl rfl (hS.lt (by decide)) (hS.k (by decide) (by decide)) (by decide) rfl (Nat.le_of_ble_eq_true rfl) (by decide) (by decide) ?_
    rintro vq mq ⟨e1, e2⟩
    rw [e1, e2]
    clear e1 e2
    simp only [Option.toList_some, Option.toList_none, List.cons_append, List.nil_append]
    have w2 := hI.s 0 17 (0) 8 (by decide)
    refine j_bif_eq (tgt := 31) rfl (by decide) (fun hb13_1 => ?_) (fun hb13_1 => ?_)
    · skip
      refine j_iconst rfl ?_
      refine j_iret rfl rfl ?_ rfl (Nat.le_refl _)
      exact ⟨fun z => by exfalso; exact hb13_1 z.2.1, fun _ => ⟨rfl, rfl⟩⟩
    · skip
      refine j_iload_n rfl rfl ?_
      refine j_if_lt (tgt := 31) rfl (by decide) (by omega) (by omega) (fun hb17_1 => ?_) (fun hb17_1 => ?_)
      · skip
        refine j_iconst rfl ?_
        refine j_iret rfl rfl ?_ rfl (Nat.le_refl _)
        exact ⟨fun z => by exfalso; omega, fun _ => ⟨rfl, rfl⟩⟩
      · skip
        refine j_iload rfl rfl ?_
        refine j_if_lt (tgt := 31) rfl (by decide) (by omega) (by omega) (fun hb22_1 => ?_) (fun hb22_1 => ?_)
        · skip
          refine j_iconst rfl ?_
          refine j_iret rfl rfl ?_ rfl (Nat.le_refl _)
          exact ⟨fun z => by exfalso; omega, fun _ => ⟨rfl, rfl⟩⟩
        · skip
          refine j_iload rfl rfl ?_
          refine j_iconst rfl ?_
          refine j_icmp_le (tgt := 33) rfl (by decide) (by omega) (by omega) (by omega) (by omega) (fun hb28_1 => ?_) (fun hb28_1 => ?_)
          · skip
            refine j_iload_n rfl rfl ?_
            refine j_sipush rfl (by decide) ?_
            refine j_idivN rfl (by omega) (by omega) (by omega) (by omega) ?_
            refine j_istore rfl (by decide) ?_
            refine j_iload rfl rfl ?_
            refine j_iconst rfl ?_
            refine j_icmp_lt (tgt := 64) rfl (by decide) (by omega) (by omega) (by omega) (by omega) (fun hb43_1 => ?_) (fun hb43_1 => ?_)
            · skip
              refine j_iconst rfl ?_
              refine j_iret rfl rfl ?_ rfl (Nat.le_refl _)
              exact ⟨fun z => by exfalso; omega, fun _ => ⟨rfl, rfl⟩⟩
            · skip
              refine j_iload rfl rfl ?_
              refine j_bipush rfl (by decide) ?_
              refine j_icmp_gt (tgt := 64) rfl (by decide) (by omega) (by omega) (by omega) (by omega) (fun hb50_1 => ?_) (fun hb50_1 => ?_)
              · skip
                refine j_iconst rfl ?_
                refine j_iret rfl rfl ?_ rfl (Nat.le_refl _)
                exact ⟨fun z => by exfalso; omega, fun _ => ⟨rfl, rfl⟩⟩
              · skip
                refine j_iload_n rfl rfl ?_
                refine j_sipush rfl (by decide) ?_
                refine j_iremN rfl (by omega) (by omega) (by omega) (by omega) ?_
                refine j_callS (As := [_]) rfl okX11_isTicks c_X11_194 (ct_X11_isTicks (by omega) (by omega)) rfl rfl (Nat.le_of_ble_eq_true rfl) (by decide) (by decide) ?_
                rintro vq mq ⟨e1, e2⟩
                rw [e1, e2]
                clear e1 e2
                simp only [Option.toList_some, Option.toList_none, List.cons_append, List.nil_append]
                refine j_bif_ne (tgt := 66) rfl (by decide) (fun hb61_1 => ?_) (fun hb61_1 => ?_)
                · skip
                  refine j_aload_n rfl rfl ?_
                  refine j_aload_n rfl rfl ?_
                  refine j_getR (q := 3) rfl f_X11_18 rfl (hS.lt (by decide)) (hS.k (by decide) (by decide)) (hS.r (by decide)) ?_
                  refine j_iload_n rfl rfl ?_
                  refine j_aald (k := 17) (n := 6) (v := (bx m b)) rfl (hS.lt (by decide)) (hS.k (by decide) (by decide)) el17 (hS.n (by decide) (by decide)) (by omega) (by omega) (by decide) (hB hb5_1).1.1 ?_
                  refine j_iload_n rfl rfl ?_
                  refine j_iload_n rfl rfl ?_
                  refine j_sipush rfl (by decide) ?_
                  refine j_iremN rfl (by omega) (by omega) (by omega) (by omega) ?_
                  refine j_callV (ci := 11) rfl okX11_bestWatches c_X11_307 (ct_bestWatches h hk hb5_1 (by omega) hfs1 hfs2) rfl rfl (hS.lt (by decide)) (hS.k (by decide) (by decide)) (by decide) rfl (Nat.le_of_ble_eq_true rfl) (by decide) (by decide) ?_
                  rintro vq N ⟨hC, hQ, e1⟩
                  rw [e1]
                  clear e1
                  simp only [Option.toList_some, Option.toList_none, List.cons_append, List.nil_append]
                  have hS := hQ.s
                  have hEr : -1 ≤ zBe m b fs tn ∧ zBe m b fs tn < 256 := zBo_rng (P := (fun y => outl (Wst m b y) (Fm m) fs (tn % 1000) (mi m 0 17) b)) (fr := freC m b) 9 0
                  rw [show zBo (fun y => outl (Wst m b y) (Fm m) fs (tn % 1000) (mi m 0 17) b) (freC m b) 9 0 = zBe m b fs tn from rfl]
                  refine j_istore rfl (by decide) ?_
                  refine j_iload rfl rfl ?_
                  refine j_if_ge (tgt := 92) rfl (by decide) (by omega) (by omega) (fun hb86_1 => ?_) (fun hb86_1 => ?_)
                  · skip
                    refine j_iload rfl rfl ?_
                    refine j_if_ne (tgt := 108) rfl (by decide) (by omega) (by omega) (fun hb94_1 => ?_) (fun hb94_1 => ?_)
                    · skip
                      refine j_iload rfl rfl ?_
                      refine j_iret rfl rfl ?_ rfl (Nat.le_refl _)
                      exact ⟨fun _ => ⟨hC, hQ, by unfold beA; rw [if_neg (by omega), if_neg (by omega)]⟩, fun z => absurd ⟨hb5_1, hb13_1, by omega, by omega, by omega, hb61_1⟩ z⟩
                    · skip
                      refine j_iload rfl rfl ?_
                      refine j_callS (As := [_]) rfl okJ6_bitCount_0f7a4 c_X11_204 (ct_bitCount (by omega) (by omega)) rfl rfl (Nat.le_of_ble_eq_true rfl) (by decide) (by decide) ?_
                      rintro vq mq ⟨e1, e2⟩
                      rw [e1, e2]
                      clear e1 e2
                      simp only [Option.toList_some, Option.toList_none, List.cons_append, List.nil_append]
                      have hbc := bcX_r8 (x := zBe m b fs tn) (by omega) (by omega)
                      have hmu : 0 ≤ bcX (zBe m b fs tn) * (tn / 1000) ∧ bcX (zBe m b fs tn) * (tn / 1000) ≤ 72 := by
                        have a1 := Int.mul_le_mul hbc.2 (show tn / 1000 ≤ 9 by omega) (by omega) (by omega : (0:Int) ≤ 8)
                        have a2 := Int.mul_nonneg hbc.1 (show 0 ≤ tn / 1000 by omega)
                        omega
                      refine j_iload rfl rfl ?_
                      refine j_imul rfl ?_
                      refine j_goto (tgt := 110) rfl (by decide) ?_
                      refine j_iret rfl rfl ?_ rfl (Nat.le_refl _)
                      exact ⟨fun _ => ⟨hC, hQ, by unfold beA; rw [if_neg (by omega), if_pos (by omega)]⟩, fun z => absurd ⟨hb5_1, hb13_1, by omega, by omega, by omega, hb61_1⟩ z⟩
                  · skip
                    refine j_bipush rfl (by decide) ?_
                    refine j_iret rfl rfl ?_ rfl (Nat.le_refl _)
                    exact ⟨fun _ => ⟨hC, hQ, by unfold beA; rw [if_pos (by omega)]⟩, fun z => absurd ⟨hb5_1, hb13_1, by omega, by omega, by omega, hb61_1⟩ z⟩
                · skip
                  refine j_iconst rfl ?_
                  refine j_iret rfl rfl ?_ rfl (Nat.le_refl _)
                  exact ⟨fun z => by exfalso; exact hb61_1 z.2.2.2.2.2, fun _ => ⟨rfl, rfl⟩⟩
          · skip
            refine j_iconst rfl ?_
            refine j_iret rfl rfl ?_ rfl (Nat.le_refl _)
            exact ⟨fun z => by exfalso; omega, fun _ => ⟨rfl, rfl⟩⟩


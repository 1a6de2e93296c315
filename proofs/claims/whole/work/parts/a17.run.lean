set_option maxRecDepth 20000 in
set_option maxHeartbeats 4000000 in
/-- run() of the class -/
theorem cr_run {G : QW} {m : AM} {f n : Int} (h : QR m) (hf1 : -2147483648 ≤ f) (hf2 : f < 2147483648) (hn1 : -2147483648 ≤ n) (hn2 : n < 2147483648) : qM G mX11_run 6 0 0 [vR 0, vI f, vI n] m (fun r N2 => ((0 ≤ f ∧ f < mi m 0 17) ∧ 1 ≤ n ∧ n ≤ 200 → ∃ N, BI m 24 True N (zwFly (wN m) (feF m (fl m f)) n 0) ∧ CR N ∧ QR N ∧ N2 = si N 0 18 (mi m 0 16) ∧ r = some (vI (bcX (mi N 24 7)))) ∧ (¬ ((0 ≤ f ∧ f < mi m 0 17) ∧ 1 ≤ n ∧ n ≤ 200) → r = some (vI (-1)) ∧ N2 = m)) := by
  have hS := h.s
  have hI := h.i
  have hf0 := hI.s 0 17 0 8 (by decide)
  refine qM.intro okX11_run (Nat.le_of_ble_eq_true rfl) ?_
  refine j_aload_n rfl rfl ?_
  refine j_iload_n rfl rfl ?_
  refine j_callV (ci := 11) rfl okX11_isFlight c_X11_191 (ct_X11_isFlight hS hI (by omega) (by omega)) rfl rfl (hS.lt (by decide)) (hS.k (by decide) (by decide)) (by decide) rfl (Nat.le_of_ble_eq_true rfl) (by decide) (by decide) ?_
  rintro vq mq ⟨e1, e2⟩
  rw [e1, e2]
  clear e1 e2
  simp only [Option.toList_some, Option.toList_none, List.cons_append, List.nil_append]
  have w1 := hI.s 0 17 (0) 8 (by decide)
  refine j_bif_eq (tgt := 15) rfl (by decide) (fun hb5_1 => ?_) (fun hb5_1 => ?_)
  · skip
    refine j_iconst rfl ?_
    refine j_iret rfl rfl ?_ rfl (Nat.le_refl _)
    exact ⟨fun z => absurd z (fun z => hb5_1 z.1), fun _ => ⟨rfl, rfl⟩⟩
  · skip
    refine j_iload_n rfl rfl ?_
    refine j_callS (As := [_]) rfl okX11_isTicks c_X11_194 (ct_X11_isTicks (by omega) (by omega)) rfl rfl (Nat.le_of_ble_eq_true rfl) (by decide) (by decide) ?_
    rintro vq mq ⟨e1, e2⟩
    rw [e1, e2]
    clear e1 e2
    simp only [Option.toList_some, Option.toList_none, List.cons_append, List.nil_append]
    refine j_bif_ne (tgt := 17) rfl (by decide) (fun hb12_1 => ?_) (fun hb12_1 => ?_)
    · skip
      refine j_aload_n rfl rfl ?_
      refine j_aload_n rfl rfl ?_
      refine j_getR (q := 24) rfl f_X11_65 rfl (hS.lt (by decide)) (hS.k (by decide) (by decide)) (hS.r (by decide)) ?_
      refine j_aload_n rfl rfl ?_
      refine j_getR (q := 4) rfl f_X11_24 rfl (hS.lt (by decide)) (hS.k (by decide) (by decide)) (hS.r (by decide)) ?_
      refine j_iload_n rfl rfl ?_
      refine j_aald (k := 18) (n := 8) (v := (fl m f)) rfl (hS.lt (by decide)) (hS.k (by decide) (by decide)) el18 (hS.n (by decide) (by decide)) (by omega) (by omega) (by decide) (h.flt (by omega) (by omega)).1.1 ?_
      refine j_iload_n rfl rfl ?_
      refine j_iconst rfl ?_
      refine j_callV (ci := 11) rfl okX11_fly c_X11_197 (ct_flyQ h (o := 24) (f := f) (by unfold sto; omega) (by omega) (by omega) (by omega) (by omega)) rfl rfl (hS.lt (by decide)) (hS.k (by decide) (by decide)) (by decide) rfl (Nat.le_of_ble_eq_true rfl) (by decide) (by decide) ?_
      rintro vq N ⟨e1, ⟨hB, hC⟩, hQ⟩
      rw [e1]
      clear e1
      simp only [Option.toList_some, Option.toList_none, List.cons_append, List.nil_append]
      have hS := hQ.s
      have hn16 : mi N 0 16 = mi m 0 16 := hB.1.cel (nt0 (Or.inl rfl)) 16
      have hd := hB.2.2.2.1.2.2.2.2.2.2.2
      refine j_aload_n rfl rfl ?_
      refine j_aload_n rfl rfl ?_
      refine j_getI rfl f_X11_113 rfl (hS.lt (by decide)) (hS.k (by decide) (by decide)) ?_
      have u35_1 := hI.s 0 16 (0) 6 (by decide)
      rw [hn16]
      refine j_putI rfl f_X11_101 rfl (hS.lt (by decide)) (hS.k (by decide) (by decide)) ?_
      refine j_aload_n rfl rfl ?_
      refine j_getR (q := 24) rfl f_X11_65 rfl (hS.lt (by decide)) (hS.k (by decide) (by decide)) (hS.r (by decide)) ?_
      refine j_getI rfl f_X11_201 rfl (hS.lt (by decide)) (hS.k (by decide) (by decide)) ?_
      rw [show mi (si N 0 18 (mi m 0 16)) 24 7 = mi N 24 7 from by simp [mi_si, mi_fil, mi_cpr, mi_sl, mi_sr]]
      have u45_1 := mi_rng N 24 7
      refine j_callS (As := [_]) rfl okJ6_bitCount_0f7a4 c_X11_204 (ct_bitCount (by omega) (by omega)) rfl rfl (Nat.le_of_ble_eq_true rfl) (by decide) (by decide) ?_
      rintro vq mq ⟨e1, e2⟩
      rw [e1, e2]
      clear e1 e2
      simp only [Option.toList_some, Option.toList_none, List.cons_append, List.nil_append]
      refine j_iret rfl rfl ?_ rfl (Nat.le_refl _)
      exact ⟨fun _ => ⟨N, hB, hC, hQ, rfl, rfl⟩, fun z => absurd ⟨hb5_1, hb12_1⟩ z⟩
    · skip
      refine j_iconst rfl ?_
      refine j_iret rfl rfl ?_ rfl (Nat.le_refl _)
      exact ⟨fun z => absurd z (fun z => hb12_1 z.2), fun _ => ⟨rfl, rfl⟩⟩


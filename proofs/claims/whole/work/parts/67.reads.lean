set_option maxRecDepth 20000 in
set_option maxHeartbeats 4000000 in
theorem ct_X12_compared {G : QW} {o : Int} {d : Nat} {f : (Int → Int) → PSt → PRes} (hd1 : 1 ≤ d) (hf : CtP G mX12_sum d o f) (hgf : ∀ (c : Int → Int) (N : Int), (∀ x, N ≤ x → c x < 0) → pGood c N (f c)) : CtP G mX12_compared (d + 1) o (fun c => pCmp c (f c)) := by
  intro m a w hS hI0 h ha0 ha1 hl
  refine qM.intro okX12_compared (Nat.le_of_ble_eq_true rfl) ?_
  have hRB := RBn (d + 1)
  have hg := hgf (chR m) (mi m 86 16) (chR_end m)
  have htp := hI0.s 86 16 0 160 (by decide)
  have h20 : mi m 86 20 = w.length := h.2.2.2.1
  refine j_aload_n rfl rfl ?_
  refine j_callV (ci := 12) rfl okX12_sum c_X12_252 (hf m a w hS hI0 h ha0 ha1 hl) rfl rfl (((FP.rf m).st hS).lt (by decide)) (((FP.rf m).st hS).k (by decide) (by decide)) (by decide) rfl (Nat.le_of_ble_eq_true rfl) (RB.call hRB (by omega) (by decide)) ⟨Nat.le_refl _, Nat.le_refl _⟩ ?_
  rintro vq N2 ⟨e1, hR⟩
  rw [e1]
  clear e1
  simp only [Option.toList_some, Option.toList_none, List.nil_append]
  cases hres : f (chR m) (a, w) with
  | error p =>
    rw [hres] at hR
    obtain ⟨hFb, hIb, hX⟩ := hR
    have hX : PX N2 a w.length p := hX
    have hX0 := hX
    obtain ⟨x1, x2, x3, x4, x5, x6⟩ := hX0
    have ecN : mi N2 86 16 = mi m 86 16 := hFb.cell (by decide) (by decide)
    refine j_aload_n rfl rfl ?_
    refine j_callV (ci := 12) rfl okX12_look c_X12_225 (ct_X12_look (hFb.st hS) hIb (by omega) (by omega)) rfl rfl ((hFb.st hS).lt (by decide)) ((hFb.st hS).k (by decide) (by decide)) (by decide) rfl (Nat.le_of_ble_eq_true rfl) (RB.call hRB (by omega) (by decide)) ⟨Nat.le_refl _, Nat.le_refl _⟩ ?_
    rintro vq mq ⟨e1, e2⟩
    rw [e1, e2]
    clear e1 e2
    simp only [Option.toList_some, Option.toList_none, List.cons_append, List.nil_append]
    have crx := chR_rng hIb (mi N2 86 17)
    refine j_istore_n rfl (by decide) ?_
    refine j_aload_n rfl rfl ?_
    refine j_getI rfl f_X12_213 rfl ((hFb.st hS).lt (by decide)) ((hFb.st hS).k (by decide) (by decide)) ?_
    have u10_1 := mi_rng N2 86 18
    refine j_if_ge (tgt := 34) rfl (by decide) (by omega) (by omega) (fun hb13_1 => ?_) (fun hb13_1 => ?_)
    · skip
      refine j_vret rfl rfl ?_ rfl (Nat.le_refl _)
      refine ⟨rfl, ?_⟩
      show PR m N2 a o w (pCmp (chR m) (f (chR m)) (a, w))
      unfold pCmp
      rw [hres]
      exact ⟨hFb, hIb, hX⟩
    · skip
      exfalso; omega
  | ok q =>
    rw [hres] at hR
    obtain ⟨hFb, hIb, hPb⟩ := hR
    have hPb : PS N2 q.1 o q.2 := hPb
    obtain ⟨g1, g2, w2, g3, g4, g5, -⟩ := (hg a w ha0 ha1).1 q hres
    have g7 : (q.2.length : Int) ≤ w.length + (q.1 - a) := by rw [g3, List.length_append]; omega
    have e18 := hPb.2.1
    have ecN : mi N2 86 16 = mi m 86 16 := hFb.cell (by decide) (by decide)
    refine j_aload_n rfl rfl ?_
    refine j_callV (ci := 12) rfl okX12_look c_X12_225 (ct_X12_look (hFb.st hS) hIb (by rw [hPb.1]; omega) (by rw [hPb.1]; omega)) rfl rfl ((hFb.st hS).lt (by decide)) ((hFb.st hS).k (by decide) (by decide)) (by decide) rfl (Nat.le_of_ble_eq_true rfl) (RB.call hRB (by omega) (by decide)) ⟨Nat.le_refl _, Nat.le_refl _⟩ ?_
    rintro vq mq ⟨e1, e2⟩
    rw [hFb.ch, hPb.1] at e1
    rw [e1, e2]
    clear e1 e2
    simp only [Option.toList_some, Option.toList_none, List.cons_append, List.nil_append]
    have cr1 := chR_rng hI0 q.1
    refine j_istore_n rfl (by decide) ?_
    refine j_aload_n rfl rfl ?_
    refine j_getI rfl f_X12_213 rfl ((hFb.st hS).lt (by decide)) ((hFb.st hS).k (by decide) (by decide)) ?_
    have u10_2 := mi_rng N2 86 18
    refine j_if_ge (tgt := 34) rfl (by decide) (by omega) (by omega) (fun hb13_2 => ?_) (fun hb13_2 => ?_)
    · skip
      refine j_vret rfl rfl ?_ rfl (Nat.le_refl _)
      first | (exfalso; omega) | (refine ⟨rfl, ?_⟩; show PR m N2 a o w (pCmp (chR m) (f (chR m)) (a, w)); unfold pCmp; rw [hres]; show PR m N2 a o w (if opC (chR m q.1) = 0 then _ else _); rw [if_pos (opC_0 (by omega))]; exact ⟨hFb, hIb, hPb⟩)
    · skip
      refine j_iload_n rfl rfl ?_
      refine j_bipush rfl (by decide) ?_
      refine j_icmp_eq (tgt := 35) rfl (by decide) (by omega) (by omega) (by omega) (by omega) (fun hb19_1 => ?_) (fun hb19_1 => ?_)
      · skip
        refine j_aload_n rfl rfl ?_
        refine j_dup rfl (Nat.ne_of_beq_eq_false rfl) ?_
        refine j_getI rfl f_X12_210 rfl ((hFb.st hS).lt (by decide)) ((hFb.st hS).k (by decide) (by decide)) ?_
        have u37_1 := mi_rng N2 86 17
        refine j_iconst rfl ?_
        refine j_iadd rfl ?_
        refine j_putI rfl f_X12_210 rfl ((hFb.st hS).lt (by decide)) ((hFb.st hS).k (by decide) (by decide)) ?_
        have hlt := lt_end (chR_end m) (a := q.1) (by omega)
        rw [hPb.1]
        have hP4 := hPb.adv (b := (q.1 + 1)) (by omega) (by omega)
        have hF3 := hFb.one (o := 86) (k := 17) (Or.inr (by omega)) (q.1 + 1)
        have hI5 := hIb.read (k := 17) (by omega) (q.1 + 1)
        generalize si N2 86 17 (q.1 + 1) = N2 at hP4 hF3 hI5 ⊢
        refine j_aload_n rfl rfl ?_
        refine j_callV (ci := 12) rfl okX12_sum c_X12_252 (hf N2 (q.1 + 1) q.2 (hF3.st hS) hI5 hP4 (by omega) (by rw [show mi N2 86 16 = mi m 86 16 from hF3.cell (by decide) (by decide)]; omega) (by omega)) rfl rfl ((hF3.st hS).lt (by decide)) ((hF3.st hS).k (by decide) (by decide)) (by decide) rfl (Nat.le_of_ble_eq_true rfl) (RB.call hRB (by omega) (by decide)) ⟨Nat.le_refl _, Nat.le_refl _⟩ ?_
        rintro vq N4 ⟨e1, hR2⟩
        rw [e1]
        clear e1
        simp only [Option.toList_some, Option.toList_none, List.nil_append]
        rw [hF3.ch] at hR2
        have hne : ¬ opC (chR m q.1) = 0 := by intro z; unfold opC at z; (repeat' split at z) <;> omega
        have hopm : opM (chR m q.1) = opC (chR m q.1) := opM_C (by omega)
        cases hres2 : f (chR m) (q.1 + 1, q.2) with
        | error p =>
          rw [hres2] at hR2
          obtain ⟨hFd, hId, hX⟩ := hR2
          have hX : PX N4 (q.1 + 1) q.2.length p := hX
          have hFc := hF3.trans hFd
          have hX0 := hX
          obtain ⟨x1, x2, x3, x4, x5, x6⟩ := hX0
          have ecN4 : mi N4 86 16 = mi m 86 16 := hFc.cell (by decide) (by decide)
          refine j_aload_n rfl rfl ?_
          refine j_iload_n rfl rfl ?_
          refine j_iconst rfl ?_
          refine j_callV (ci := 12) rfl okX12_lay c_X12_229 (ct_X12_lay (hFc.st hS) (by omega) (by omega) (by omega)) rfl rfl ((hFc.st hS).lt (by decide)) ((hFc.st hS).k (by decide) (by decide)) (by decide) rfl (Nat.le_of_ble_eq_true rfl) (RB.call hRB (by omega) (by decide)) ⟨Nat.le_refl _, Nat.le_refl _⟩ ?_
          rintro vq mq ⟨e1, e2⟩
          rw [e1, e2]
          clear e1 e2
          simp only [Option.toList_some, Option.toList_none, List.nil_append]
          refine j_vret rfl rfl ?_ rfl (Nat.le_refl _)
          refine ⟨rfl, ?_⟩
          show PR m _ a o w (pCmp (chR m) (f (chR m)) (a, w))
          unfold pCmp
          rw [hres]
          show PR m _ a o w (if opC (chR m q.1) = 0 then _ else pThen (f (chR m) (q.1 + 1, q.2)) _)
          rw [if_neg hne, hres2]
          exact ⟨layM_fp hFc (by omega), layM_im hId (by omega) (by decide), layM_px hX (chR m q.1) 0 (by omega) (by omega) (by omega)⟩
        | ok t =>
          rw [hres2] at hR2
          obtain ⟨hFd, hId, hPd⟩ := hR2
          have hPd : PS N4 t.1 o t.2 := hPd
          have hFc := hF3.trans hFd
          obtain ⟨k1, k2, w3, k3, k4, k5, -⟩ := (hg (q.1 + 1) q.2 (by omega) (by omega)).1 t hres2
          have k7 : (t.2.length : Int) ≤ q.2.length + (t.1 - (q.1 + 1)) := by rw [k3, List.length_append]; omega
          refine j_aload_n rfl rfl ?_
          refine j_iload_n rfl rfl ?_
          refine j_iconst rfl ?_
          refine j_callV (ci := 12) rfl okX12_lay c_X12_229 (ct_X12_lay (hFc.st hS) (by omega) (by rw [hPd.2.2.2.1]; omega) (by rw [hPd.2.2.2.1]; omega)) rfl rfl ((hFc.st hS).lt (by decide)) ((hFc.st hS).k (by decide) (by decide)) (by decide) rfl (Nat.le_of_ble_eq_true rfl) (RB.call hRB (by omega) (by decide)) ⟨Nat.le_refl _, Nat.le_refl _⟩ ?_
          rintro vq mq ⟨e1, e2⟩
          rw [e1, e2]
          clear e1 e2
          simp only [Option.toList_some, Option.toList_none, List.nil_append]
          have hP8 := layM_ps (what := chR m q.1) (v := 0) hPd (by omega) (by omega) (by omega)
          have hF7 := layM_fp (what := chR m q.1) (v := 0) hFc (by rw [hPd.2.2.2.1]; omega)
          have hI9 := layM_im (what := chR m q.1) (v := 0) hId (by omega) (by omega)
          generalize layM N4 (chR m q.1) 0 = N6 at hP8 hF7 hI9 ⊢
          refine j_vret rfl rfl ?_ rfl (Nat.le_refl _)
          refine ⟨rfl, ?_⟩
          show PR m _ a o w (pCmp (chR m) (f (chR m)) (a, w))
          unfold pCmp
          rw [hres]
          show PR m _ a o w (if opC (chR m q.1) = 0 then _ else pThen (f (chR m) (q.1 + 1, q.2)) _)
          rw [if_neg hne, hres2]
          rw [hopm] at hP8
          exact ⟨hF7, hI9, hP8⟩
      · skip
        refine j_iload_n rfl rfl ?_
        refine j_bipush rfl (by decide) ?_
        refine j_icmp_eq (tgt := 35) rfl (by decide) (by omega) (by omega) (by omega) (by omega) (fun hb25_1 => ?_) (fun hb25_1 => ?_)
        · skip
          refine j_aload_n rfl rfl ?_
          refine j_dup rfl (Nat.ne_of_beq_eq_false rfl) ?_
          refine j_getI rfl f_X12_210 rfl ((hFb.st hS).lt (by decide)) ((hFb.st hS).k (by decide) (by decide)) ?_
          have u37_2 := mi_rng N2 86 17
          refine j_iconst rfl ?_
          refine j_iadd rfl ?_
          refine j_putI rfl f_X12_210 rfl ((hFb.st hS).lt (by decide)) ((hFb.st hS).k (by decide) (by decide)) ?_
          have hlt := lt_end (chR_end m) (a := q.1) (by omega)
          rw [hPb.1]
          have hP12 := hPb.adv (b := (q.1 + 1)) (by omega) (by omega)
          have hF11 := hFb.one (o := 86) (k := 17) (Or.inr (by omega)) (q.1 + 1)
          have hI13 := hIb.read (k := 17) (by omega) (q.1 + 1)
          generalize si N2 86 17 (q.1 + 1) = N10 at hP12 hF11 hI13 ⊢
          refine j_aload_n rfl rfl ?_
          refine j_callV (ci := 12) rfl okX12_sum c_X12_252 (hf N10 (q.1 + 1) q.2 (hF11.st hS) hI13 hP12 (by omega) (by rw [show mi N10 86 16 = mi m 86 16 from hF11.cell (by decide) (by decide)]; omega) (by omega)) rfl rfl ((hF11.st hS).lt (by decide)) ((hF11.st hS).k (by decide) (by decide)) (by decide) rfl (Nat.le_of_ble_eq_true rfl) (RB.call hRB (by omega) (by decide)) ⟨Nat.le_refl _, Nat.le_refl _⟩ ?_
          rintro vq N4 ⟨e1, hR2⟩
          rw [e1]
          clear e1
          simp only [Option.toList_some, Option.toList_none, List.nil_append]
          rw [hF11.ch] at hR2
          have hne : ¬ opC (chR m q.1) = 0 := by intro z; unfold opC at z; (repeat' split at z) <;> omega
          have hopm : opM (chR m q.1) = opC (chR m q.1) := opM_C (by omega)
          cases hres2 : f (chR m) (q.1 + 1, q.2) with
          | error p =>
            rw [hres2] at hR2
            obtain ⟨hFd, hId, hX⟩ := hR2
            have hX : PX N4 (q.1 + 1) q.2.length p := hX
            have hFc := hF11.trans hFd
            have hX0 := hX
            obtain ⟨x1, x2, x3, x4, x5, x6⟩ := hX0
            have ecN4 : mi N4 86 16 = mi m 86 16 := hFc.cell (by decide) (by decide)
            refine j_aload_n rfl rfl ?_
            refine j_iload_n rfl rfl ?_
            refine j_iconst rfl ?_
            refine j_callV (ci := 12) rfl okX12_lay c_X12_229 (ct_X12_lay (hFc.st hS) (by omega) (by omega) (by omega)) rfl rfl ((hFc.st hS).lt (by decide)) ((hFc.st hS).k (by decide) (by decide)) (by decide) rfl (Nat.le_of_ble_eq_true rfl) (RB.call hRB (by omega) (by decide)) ⟨Nat.le_refl _, Nat.le_refl _⟩ ?_
            rintro vq mq ⟨e1, e2⟩
            rw [e1, e2]
            clear e1 e2
            simp only [Option.toList_some, Option.toList_none, List.nil_append]
            refine j_vret rfl rfl ?_ rfl (Nat.le_refl _)
            refine ⟨rfl, ?_⟩
            show PR m _ a o w (pCmp (chR m) (f (chR m)) (a, w))
            unfold pCmp
            rw [hres]
            show PR m _ a o w (if opC (chR m q.1) = 0 then _ else pThen (f (chR m) (q.1 + 1, q.2)) _)
            rw [if_neg hne, hres2]
            exact ⟨layM_fp hFc (by omega), layM_im hId (by omega) (by decide), layM_px hX (chR m q.1) 0 (by omega) (by omega) (by omega)⟩
          | ok t =>
            rw [hres2] at hR2
            obtain ⟨hFd, hId, hPd⟩ := hR2
            have hPd : PS N4 t.1 o t.2 := hPd
            have hFc := hF11.trans hFd
            obtain ⟨k1, k2, w3, k3, k4, k5, -⟩ := (hg (q.1 + 1) q.2 (by omega) (by omega)).1 t hres2
            have k7 : (t.2.length : Int) ≤ q.2.length + (t.1 - (q.1 + 1)) := by rw [k3, List.length_append]; omega
            refine j_aload_n rfl rfl ?_
            refine j_iload_n rfl rfl ?_
            refine j_iconst rfl ?_
            refine j_callV (ci := 12) rfl okX12_lay c_X12_229 (ct_X12_lay (hFc.st hS) (by omega) (by rw [hPd.2.2.2.1]; omega) (by rw [hPd.2.2.2.1]; omega)) rfl rfl ((hFc.st hS).lt (by decide)) ((hFc.st hS).k (by decide) (by decide)) (by decide) rfl (Nat.le_of_ble_eq_true rfl) (RB.call hRB (by omega) (by decide)) ⟨Nat.le_refl _, Nat.le_refl _⟩ ?_
            rintro vq mq ⟨e1, e2⟩
            rw [e1, e2]
            clear e1 e2
            simp only [Option.toList_some, Option.toList_none, List.nil_append]
            have hP16 := layM_ps (what := chR m q.1) (v := 0) hPd (by omega) (by omega) (by omega)
            have hF15 := layM_fp (what := chR m q.1) (v := 0) hFc (by rw [hPd.2.2.2.1]; omega)
            have hI17 := layM_im (what := chR m q.1) (v := 0) hId (by omega) (by omega)
            generalize layM N4 (chR m q.1) 0 = N14 at hP16 hF15 hI17 ⊢
            refine j_vret rfl rfl ?_ rfl (Nat.le_refl _)
            refine ⟨rfl, ?_⟩
            show PR m _ a o w (pCmp (chR m) (f (chR m)) (a, w))
            unfold pCmp
            rw [hres]
            show PR m _ a o w (if opC (chR m q.1) = 0 then _ else pThen (f (chR m) (q.1 + 1, q.2)) _)
            rw [if_neg hne, hres2]
            rw [hopm] at hP16
            exact ⟨hF15, hI17, hP16⟩
        · skip
          refine j_iload_n rfl rfl ?_
          refine j_bipush rfl (by decide) ?_
          refine j_icmp_eq (tgt := 35) rfl (by decide) (by omega) (by omega) (by omega) (by omega) (fun hb31_1 => ?_) (fun hb31_1 => ?_)
          · skip
            refine j_aload_n rfl rfl ?_
            refine j_dup rfl (Nat.ne_of_beq_eq_false rfl) ?_
            refine j_getI rfl f_X12_210 rfl ((hFb.st hS).lt (by decide)) ((hFb.st hS).k (by decide) (by decide)) ?_
            have u37_3 := mi_rng N2 86 17
            refine j_iconst rfl ?_
            refine j_iadd rfl ?_
            refine j_putI rfl f_X12_210 rfl ((hFb.st hS).lt (by decide)) ((hFb.st hS).k (by decide) (by decide)) ?_
            have hlt := lt_end (chR_end m) (a := q.1) (by omega)
            rw [hPb.1]
            have hP20 := hPb.adv (b := (q.1 + 1)) (by omega) (by omega)
            have hF19 := hFb.one (o := 86) (k := 17) (Or.inr (by omega)) (q.1 + 1)
            have hI21 := hIb.read (k := 17) (by omega) (q.1 + 1)
            generalize si N2 86 17 (q.1 + 1) = N18 at hP20 hF19 hI21 ⊢
            refine j_aload_n rfl rfl ?_
            refine j_callV (ci := 12) rfl okX12_sum c_X12_252 (hf N18 (q.1 + 1) q.2 (hF19.st hS) hI21 hP20 (by omega) (by rw [show mi N18 86 16 = mi m 86 16 from hF19.cell (by decide) (by decide)]; omega) (by omega)) rfl rfl ((hF19.st hS).lt (by decide)) ((hF19.st hS).k (by decide) (by decide)) (by decide) rfl (Nat.le_of_ble_eq_true rfl) (RB.call hRB (by omega) (by decide)) ⟨Nat.le_refl _, Nat.le_refl _⟩ ?_
            rintro vq N4 ⟨e1, hR2⟩
            rw [e1]
            clear e1
            simp only [Option.toList_some, Option.toList_none, List.nil_append]
            rw [hF19.ch] at hR2
            have hne : ¬ opC (chR m q.1) = 0 := by intro z; unfold opC at z; (repeat' split at z) <;> omega
            have hopm : opM (chR m q.1) = opC (chR m q.1) := opM_C (by omega)
            cases hres2 : f (chR m) (q.1 + 1, q.2) with
            | error p =>
              rw [hres2] at hR2
              obtain ⟨hFd, hId, hX⟩ := hR2
              have hX : PX N4 (q.1 + 1) q.2.length p := hX
              have hFc := hF19.trans hFd
              have hX0 := hX
              obtain ⟨x1, x2, x3, x4, x5, x6⟩ := hX0
              have ecN4 : mi N4 86 16 = mi m 86 16 := hFc.cell (by decide) (by decide)
              refine j_aload_n rfl rfl ?_
              refine j_iload_n rfl rfl ?_
              refine j_iconst rfl ?_
              refine j_callV (ci := 12) rfl okX12_lay c_X12_229 (ct_X12_lay (hFc.st hS) (by omega) (by omega) (by omega)) rfl rfl ((hFc.st hS).lt (by decide)) ((hFc.st hS).k (by decide) (by decide)) (by decide) rfl (Nat.le_of_ble_eq_true rfl) (RB.call hRB (by omega) (by decide)) ⟨Nat.le_refl _, Nat.le_refl _⟩ ?_
              rintro vq mq ⟨e1, e2⟩
              rw [e1, e2]
              clear e1 e2
              simp only [Option.toList_some, Option.toList_none, List.nil_append]
              refine j_vret rfl rfl ?_ rfl (Nat.le_refl _)
              refine ⟨rfl, ?_⟩
              show PR m _ a o w (pCmp (chR m) (f (chR m)) (a, w))
              unfold pCmp
              rw [hres]
              show PR m _ a o w (if opC (chR m q.1) = 0 then _ else pThen (f (chR m) (q.1 + 1, q.2)) _)
              rw [if_neg hne, hres2]
              exact ⟨layM_fp hFc (by omega), layM_im hId (by omega) (by decide), layM_px hX (chR m q.1) 0 (by omega) (by omega) (by omega)⟩
            | ok t =>
              rw [hres2] at hR2
              obtain ⟨hFd, hId, hPd⟩ := hR2
              have hPd : PS N4 t.1 o t.2 := hPd
              have hFc := hF19.trans hFd
              obtain ⟨k1, k2, w3, k3, k4, k5, -⟩ := (hg (q.1 + 1) q.2 (by omega) (by omega)).1 t hres2
              have k7 : (t.2.length : Int) ≤ q.2.length + (t.1 - (q.1 + 1)) := by rw [k3, List.length_append]; omega
              refine j_aload_n rfl rfl ?_
              refine j_iload_n rfl rfl ?_
              refine j_iconst rfl ?_
              refine j_callV (ci := 12) rfl okX12_lay c_X12_229 (ct_X12_lay (hFc.st hS) (by omega) (by rw [hPd.2.2.2.1]; omega) (by rw [hPd.2.2.2.1]; omega)) rfl rfl ((hFc.st hS).lt (by decide)) ((hFc.st hS).k (by decide) (by decide)) (by decide) rfl (Nat.le_of_ble_eq_true rfl) (RB.call hRB (by omega) (by decide)) ⟨Nat.le_refl _, Nat.le_refl _⟩ ?_
              rintro vq mq ⟨e1, e2⟩
              rw [e1, e2]
              clear e1 e2
              simp only [Option.toList_some, Option.toList_none, List.nil_append]
              have hP24 := layM_ps (what := chR m q.1) (v := 0) hPd (by omega) (by omega) (by omega)
              have hF23 := layM_fp (what := chR m q.1) (v := 0) hFc (by rw [hPd.2.2.2.1]; omega)
              have hI25 := layM_im (what := chR m q.1) (v := 0) hId (by omega) (by omega)
              generalize layM N4 (chR m q.1) 0 = N22 at hP24 hF23 hI25 ⊢
              refine j_vret rfl rfl ?_ rfl (Nat.le_refl _)
              refine ⟨rfl, ?_⟩
              show PR m _ a o w (pCmp (chR m) (f (chR m)) (a, w))
              unfold pCmp
              rw [hres]
              show PR m _ a o w (if opC (chR m q.1) = 0 then _ else pThen (f (chR m) (q.1 + 1, q.2)) _)
              rw [if_neg hne, hres2]
              rw [hopm] at hP24
              exact ⟨hF23, hI25, hP24⟩
          · skip
            refine j_vret rfl rfl ?_ rfl (Nat.le_refl _)
            first | (exfalso; omega) | (refine ⟨rfl, ?_⟩; show PR m N2 a o w (pCmp (chR m) (f (chR m)) (a, w)); unfold pCmp; rw [hres]; show PR m N2 a o w (if opC (chR m q.1) = 0 then _ else _); rw [if_pos (opC_0 (by omega))]; exact ⟨hFb, hIb, hPb⟩)

theorem ct_reads (G : QW) : ∀ (k : Nat) (o : Int), o + k = 6 → 0 ≤ o → CtP G mX12_operand (2 + 6 * k) o (fun c => pOpd c true (pSub c true k)) ∧ CtP G mX12_either (7 + 6 * k) o (fun c => pEx c (pOpd c true (pSub c true k))) := by
  have up : ∀ (k : Nat) (o : Int), CtP G mX12_operand (2 + 6 * k) o (fun c => pOpd c true (pSub c true k)) → CtP G mX12_either (7 + 6 * k) o (fun c => pEx c (pOpd c true (pSub c true k))) := by
    intro k o h
    have g0 : ∀ (c : Int → Int) (N : Int), (∀ x, N ≤ x → c x < 0) → pGood c N (pOpd c true (pSub c true k)) := fun c N hc => pOpd_good hc true _ (pSub_good hc true k)
    have h1 := ct_X12_product (by omega) h g0
    have g1 : ∀ (c : Int → Int) (N : Int), (∀ x, N ≤ x → c x < 0) → pGood c N (pLev c opP (pOpd c true (pSub c true k))) := fun c N hc => pLev_good hc opP_r (g0 c N hc)
    have h2 := ct_X12_sum (by omega) h1 g1
    have g2 : ∀ (c : Int → Int) (N : Int), (∀ x, N ≤ x → c x < 0) → pGood c N (pLev c opS (pLev c opP (pOpd c true (pSub c true k)))) := fun c N hc => pLev_good hc opS_r (g1 c N hc)
    have h3 := ct_X12_compared (by omega) h2 g2
    have g3 : ∀ (c : Int → Int) (N : Int), (∀ x, N ≤ x → c x < 0) → pGood c N (pCmp c (pLev c opS (pLev c opP (pOpd c true (pSub c true k))))) := fun c N hc => pCmp_good hc (g2 c N hc)
    have h4 := ct_X12_both (by omega) h3 g3
    have g4 : ∀ (c : Int → Int) (N : Int), (∀ x, N ≤ x → c x < 0) → pGood c N (pLev c opA (pCmp c (pLev c opS (pLev c opP (pOpd c true (pSub c true k)))))) := fun c N hc => pLev_good hc opA_r (g3 c N hc)
    have h5 := ct_X12_either (by omega) h4 g4
    rw [show 7 + 6 * k = 2 + 6 * k + 1 + 1 + 1 + 1 + 1 by omega]
    exact h5
  intro k
  induction k with
  | zero =>
    intro o ho h0
    have h := ct_X12_operand (G := G) (k := 0) ho h0 (fun k2 e => absurd e (by omega))
    exact ⟨h, up 0 o h⟩
  | succ k ih =>
    intro o ho h0
    have h := ct_X12_operand (G := G) (k := k + 1) ho h0 (fun k2 e => by
      obtain rfl : k2 = k := by omega
      exact ih (o + 1) (by omega) (by omega))
    exact ⟨h, up (k + 1) o h⟩
/-- a whole part of a text -/
def pAll (c : Int → Int) (six : Bool) : PSt → PRes := pEx c (pOpd c six (pSub c six 6))
theorem pAll_good {c : Int → Int} {N : Int} (hc : ∀ x, N ≤ x → c x < 0) (six : Bool) : pGood c N (pAll c six) := pEx_good hc (pOpd_good hc six _ (pSub_good hc six 6))
theorem ct_X12_eitherA (G : QW) : CtP G mX12_either 43 0 (fun c => pAll c true) := (ct_reads G 6 0 (by decide) (by decide)).2


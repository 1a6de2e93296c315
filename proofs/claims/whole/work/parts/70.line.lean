set_option maxRecDepth 20000 in
set_option maxHeartbeats 8000000 in
theorem ct_X12_readLine {G : QW} {m : AM} {l a : Int} {w : List (Nat × Int)} {R : Except Int (PSt × LRec)} (hS : St m) (hI0 : IM m) (hl0 : 0 ≤ l) (hl1 : l ≤ 11) (h : PS m a 0 w) (h6 : mi m 91 6 = l) (ha0 : 0 ≤ a) (ha1 : a ≤ mi m 86 16) (hlw : (w.length : Int) ≤ a) (hQ : pLine (chR m) true (a, w) = R) : qM G mX12_readLine 44 0 0 [vR 86] m (fun r m' => r = none ∧ PQ l m m' R) := by
  refine qM.intro okX12_readLine (Nat.le_of_ble_eq_true rfl) ?_
  have htp := hI0.s 86 16 0 160 (by decide)
  have hRB := RBn 44
  have hg := pAll_good (chR_end m) true
  have hl6 : mi m 91 (6 : Int).toNat = l := h6
  have hL0 : LnS l m m a w _ _ _ _ _ := ⟨FL.rf l m, hI0, h, ⟨rfl, rfl, rfl, rfl, rfl⟩, h6⟩
  refine j_aload_n rfl rfl ?_
  refine j_getR (q := 91) rfl f_X12_22 rfl ((hL0.1.st hS).lt (by decide)) ((hL0.1.st hS).k (by decide) (by decide)) ((hL0.1.st hS).r (by decide)) ?_
  refine j_bipush rfl (by decide) ?_
  refine j_iald (n := 7) rfl ((hL0.1.st hS).lt (by decide)) ((hL0.1.st hS).k (by decide) (by decide)) ((hL0.1.st hS).n (by decide) (by decide)) (by omega) (by omega) (by decide) ?_
  have u6_1 := hL0.2.1.a 91 (0) 12 (by decide) (6 : Int).toNat
  refine j_bipush rfl (by decide) ?_
  refine j_icmp_ne (tgt := 17) rfl (by decide) (by omega) (by omega) (by omega) (by omega) (fun hb9_1 => ?_) (fun hb9_1 => ?_)
  · skip
    refine j_bipush rfl (by decide) ?_
    refine j_aload_n rfl rfl ?_
    refine j_getR (q := 91) rfl f_X12_22 rfl ((hL0.1.st hS).lt (by decide)) ((hL0.1.st hS).k (by decide) (by decide)) ((hL0.1.st hS).r (by decide)) ?_
    refine j_bipush rfl (by decide) ?_
    refine j_iald (n := 7) rfl ((hL0.1.st hS).lt (by decide)) ((hL0.1.st hS).k (by decide) (by decide)) ((hL0.1.st hS).n (by decide) (by decide)) (by omega) (by omega) (by decide) ?_
    have u25_1 := hL0.2.1.a 91 (0) 12 (by decide) (6 : Int).toNat
    refine j_iadd rfl ?_
    refine j_istore_n rfl (by decide) ?_
    refine j_loc (ls' := [(0, vR 86), (1, vI (72 + l))]) (by rw [← hl6]; rfl) ?_
    refine j_aload_n rfl rfl ?_
    refine j_getR (q := 92) rfl f_X12_25 rfl ((hL0.1.st hS).lt (by decide)) ((hL0.1.st hS).k (by decide) (by decide)) ((hL0.1.st hS).r (by decide)) ?_
    refine j_iload_n rfl rfl ?_
    refine j_aload_n rfl rfl ?_
    refine j_bipush rfl (by decide) ?_
    refine j_callV (ci := 12) rfl okX12_isNext c_X12_261 (ct_X12_isNextU (hL0.1.st hS) hL0.2.1 hL0.2.2.1 (by omega) (by rw [show mi m 86 16 = mi m 86 16 from hL0.1.cell (by decide) (by decide) (by omega) (by decide)]; omega) (by omega) (by decide)) rfl rfl ((hL0.1.st hS).lt (by decide)) ((hL0.1.st hS).k (by decide) (by decide)) (by decide) rfl (Nat.le_of_ble_eq_true rfl) (RB.call hRB (by omega) (by decide)) ⟨Nat.le_refl _, Nat.le_refl _⟩ ?_
    rintro vq N1 ⟨e1, qf, qi, qp⟩
    rw [hL0.1.ch] at e1 qp
    rw [e1]
    clear e1
    simp only [Option.toList_some, Option.toList_none, List.cons_append, List.nil_append]
    have hL2 := hL0.fp qf qi qp
    clear qf qi qp
    have kx3 := kxt_c (chR m) a 107
    have kl4 := fun (z : chR m a = 107) => lt_end (chR_end m) (a := a) (by omega)
    have kb5 : (a + kxt (chR m) a 107) ≤ mi m 86 16 := by omega
    refine j_zast (n := 84) rfl ((hL2.1.st hS).lt (by decide)) ((hL2.1.st hS).k (by decide) (by decide)) ((hL2.1.st hS).n (by decide) (by decide)) (by omega) (by omega) (by first | decide | omega) (by omega) ?_
    have hL7 := hL2.s92 (v := (kxt (chR m) a 107)) (by omega)
    generalize si N1 92 (72 + l).toNat (kxt (chR m) a 107) = N6 at hL7 ⊢
    refine j_aload_n rfl rfl ?_
    refine j_getR (q := 95) rfl f_X12_35 rfl ((hL7.1.st hS).lt (by decide)) ((hL7.1.st hS).k (by decide) (by decide)) ((hL7.1.st hS).r (by decide)) ?_
    refine j_iload_n rfl rfl ?_
    refine j_aload_n rfl rfl ?_
    refine j_getI rfl f_X12_216 rfl ((hL7.1.st hS).lt (by decide)) ((hL7.1.st hS).k (by decide) (by decide)) ?_
    have u46_1 := mi_rng N6 86 20
    refine j_iast (n := 84) rfl ((hL7.1.st hS).lt (by decide)) ((hL7.1.st hS).k (by decide) (by decide)) ((hL7.1.st hS).n (by decide) (by decide)) (by omega) (by omega) (by first | decide | omega) ?_
    rw [hL7.2.2.1.2.2.2.1]
    have hL9 := hL7.s95 (v := (w.length : Int)) (by omega)
    generalize si N6 95 (72 + l).toNat (w.length : Int) = N8 at hL9 ⊢
    refine j_aload_n rfl rfl ?_
    refine j_bipush rfl (by decide) ?_
    refine j_callV (ci := 12) rfl okX12_isNext c_X12_261 (ct_X12_isNextU (hL9.1.st hS) hL9.2.1 hL9.2.2.1 (by omega) (by rw [show mi N8 86 16 = mi m 86 16 from hL9.1.cell (by decide) (by decide) (by omega) (by decide)]; omega) (by omega) (by decide)) rfl rfl ((hL9.1.st hS).lt (by decide)) ((hL9.1.st hS).k (by decide) (by decide)) (by decide) rfl (Nat.le_of_ble_eq_true rfl) (RB.call hRB (by omega) (by decide)) ⟨Nat.le_refl _, Nat.le_refl _⟩ ?_
    rintro vq N10 ⟨e1, qf, qi, qp⟩
    rw [hL9.1.ch] at e1 qp
    rw [e1]
    clear e1
    simp only [Option.toList_some, Option.toList_none, List.cons_append, List.nil_append]
    have hL11 := hL9.fp qf qi qp
    clear qf qi qp
    have kx12 := kxt_c (chR m) (a + kxt (chR m) a 107) 63
    have kl13 := fun (z : chR m (a + kxt (chR m) a 107) = 63) => lt_end (chR_end m) (a := (a + kxt (chR m) a 107)) (by omega)
    have kb14 : ((a + kxt (chR m) a 107) + kxt (chR m) (a + kxt (chR m) a 107) 63) ≤ mi m 86 16 := by omega
    refine j_if_eq (tgt := 91) rfl (by decide) (by omega) (by omega) (fun hb56_1 => ?_) (fun hb56_1 => ?_)
    · skip
      have hz : ((a + kxt (chR m) a 107) + kxt (chR m) (a + kxt (chR m) a 107) 63) = (a + kxt (chR m) a 107) := by omega
      rw [hz] at hL11
      have hQ2 : pRest (chR m) true (kxt (chR m) a 107) w.length ((a + kxt (chR m) a 107), w) = R := by rw [← hQ]; unfold pLine pTest; dsimp only; rw [if_neg (by omega)]
      exact lp_readLine_91 hS hI0 hl0 hl1 hL11 (by omega) (by omega) (by omega) hQ2
    · skip
      refine j_aload_n rfl rfl ?_
      refine j_callV (ci := 12) rfl okX12_either c_X12_243 (ct_X12_eitherA G N10 ((a + kxt (chR m) a 107) + kxt (chR m) (a + kxt (chR m) a 107) 63) w (hL11.1.st hS) hL11.2.1 hL11.2.2.1 (by omega) (by rw [show mi N10 86 16 = mi m 86 16 from hL11.1.cell (by decide) (by decide) (by omega) (by decide)]; omega) (by omega)) rfl rfl ((hL11.1.st hS).lt (by decide)) ((hL11.1.st hS).k (by decide) (by decide)) (by decide) rfl (Nat.le_of_ble_eq_true rfl) (RB.call hRB (by omega) (by decide)) ⟨Nat.le_refl _, Nat.le_refl _⟩ ?_
      rintro vq N15 ⟨e1, hR⟩
      rw [e1]
      clear e1
      rw [hL11.1.ch] at hR
      dsimp only at hR
      simp only [Option.toList_some, Option.toList_none, List.nil_append]
      have hA1 : ((a + kxt (chR m) a 107) + kxt (chR m) (a + kxt (chR m) a 107) 63) = (a + kxt (chR m) a 107) + 1 := by omega
      rw [hA1] at hR
      cases hres3 : pAll (chR m) true ((a + kxt (chR m) a 107) + 1, w) with
      | error p =>
        rw [hres3] at hR
        obtain ⟨hFb, hIb, hX⟩ := hR
        have hX : PX N15 _ _ p := hX
        have x1 := hX.1
        have x2 := hX.2.1
        have hFc := hL11.1.fp hFb
        refine j_aload_n rfl rfl ?_
        refine j_getI rfl f_X12_213 rfl ((hFc.st hS).lt (by decide)) ((hFc.st hS).k (by decide) (by decide)) ?_
        have u64_1 := mi_rng N15 86 18
        refine j_if_ge (tgt := 83) rfl (by decide) (by omega) (by omega) (fun hb67_1 => ?_) (fun hb67_1 => ?_)
        · skip
          refine j_aload_n rfl rfl ?_
          refine j_getI rfl f_X12_213 rfl ((hFc.st hS).lt (by decide)) ((hFc.st hS).k (by decide) (by decide)) ?_
          have u84_1 := mi_rng N15 86 18
          refine j_if_lt (tgt := 91) rfl (by decide) (by omega) (by omega) (fun hb87_1 => ?_) (fun hb87_1 => ?_)
          · skip
            exfalso; omega
          · skip
            refine j_vret rfl rfl ?_ rfl (Nat.le_refl _)
            exact ⟨rfl, by rw [← hQ]; unfold pLine pTest; dsimp only; rw [if_pos (by omega), hres3]; exact ⟨hFc, hIb, x1, x2⟩⟩
        · skip
          exfalso; omega
      | ok q =>
        rw [hres3] at hR
        obtain ⟨hFb, hIb, hPb⟩ := hR
        have hPb : PS N15 q.1 0 q.2 := hPb
        have hLq := hL11.fp hFb hIb hPb
        obtain ⟨g1, g2, w2, g3, g4, g5, -⟩ := (hg ((a + kxt (chR m) a 107) + 1) w (by omega) (by omega)).1 q hres3
        have g7 : (q.2.length : Int) ≤ w.length + (q.1 - ((a + kxt (chR m) a 107) + 1)) := by rw [g3, List.length_append]; omega
        have h18 := hPb.2.1
        refine j_aload_n rfl rfl ?_
        refine j_getI rfl f_X12_213 rfl ((hLq.1.st hS).lt (by decide)) ((hLq.1.st hS).k (by decide) (by decide)) ?_
        have u64_2 := mi_rng N15 86 18
        refine j_if_ge (tgt := 83) rfl (by decide) (by omega) (by omega) (fun hb67_2 => ?_) (fun hb67_2 => ?_)
        · skip
          have h18b := hLq.2.2.1.2.1
          refine j_aload_n rfl rfl ?_
          refine j_getI rfl f_X12_213 rfl ((hLq.1.st hS).lt (by decide)) ((hLq.1.st hS).k (by decide) (by decide)) ?_
          have u84_2 := mi_rng N15 86 18
          refine j_if_lt (tgt := 91) rfl (by decide) (by omega) (by omega) (fun hb87_2 => ?_) (fun hb87_2 => ?_)
          · skip
            have hz : q.1 = q.1 + 1 := by omega
            rw [hz] at hLq
            have hQ2 : pRest (chR m) true (kxt (chR m) a 107) w.length (q.1 + 1, q.2) = R := by rw [← hQ]; unfold pLine pTest; dsimp only; rw [if_pos (by omega), hres3]; unfold pThen; dsimp only; rw [if_pos (by omega)]
            exact lp_readLine_91 hS hI0 hl0 hl1 hLq (by omega) (by omega) (by omega) hQ2
          · skip
            refine j_vret rfl rfl ?_ rfl (Nat.le_refl _)
            first | (exfalso; omega) | exact ⟨rfl, by rw [← hQ]; unfold pLine pTest; dsimp only; rw [if_pos (by omega), hres3]; unfold pThen; dsimp only; rw [if_neg (by omega)]; exact ⟨hB.1, hB.2.1, hB.2.2⟩⟩
        · skip
          refine j_aload_n rfl rfl ?_
          refine j_bipush rfl (by decide) ?_
          refine j_callV (ci := 12) rfl okX12_isNext c_X12_261 (ct_X12_isNextU (hLq.1.st hS) hLq.2.1 hLq.2.2.1 (by omega) (by rw [show mi N15 86 16 = mi m 86 16 from hLq.1.cell (by decide) (by decide) (by omega) (by decide)]; omega) (by omega) (by decide)) rfl rfl ((hLq.1.st hS).lt (by decide)) ((hLq.1.st hS).k (by decide) (by decide)) (by decide) rfl (Nat.le_of_ble_eq_true rfl) (RB.call hRB (by omega) (by decide)) ⟨Nat.le_refl _, Nat.le_refl _⟩ ?_
          rintro vq N16 ⟨e1, qf, qi, qp⟩
          rw [hLq.1.ch] at e1 qp
          rw [e1]
          clear e1
          simp only [Option.toList_some, Option.toList_none, List.cons_append, List.nil_append]
          have hL17 := hLq.fp qf qi qp
          clear qf qi qp
          have kx18 := kxt_c (chR m) q.1 58
          have kl19 := fun (z : chR m q.1 = 58) => lt_end (chR_end m) (a := q.1) (by omega)
          have kb20 : (q.1 + kxt (chR m) q.1 58) ≤ mi m 86 16 := by omega
          refine j_if_ne (tgt := 83) rfl (by decide) (by omega) (by omega) (fun hb76_1 => ?_) (fun hb76_1 => ?_)
          · skip
            have h18b := hL17.2.2.1.2.1
            refine j_aload_n rfl rfl ?_
            refine j_getI rfl f_X12_213 rfl ((hL17.1.st hS).lt (by decide)) ((hL17.1.st hS).k (by decide) (by decide)) ?_
            have u84_3 := mi_rng N16 86 18
            refine j_if_lt (tgt := 91) rfl (by decide) (by omega) (by omega) (fun hb87_3 => ?_) (fun hb87_3 => ?_)
            · skip
              have hz : (q.1 + kxt (chR m) q.1 58) = q.1 + 1 := by omega
              rw [hz] at hL17
              have hQ2 : pRest (chR m) true (kxt (chR m) a 107) w.length (q.1 + 1, q.2) = R := by rw [← hQ]; unfold pLine pTest; dsimp only; rw [if_pos (by omega), hres3]; unfold pThen; dsimp only; rw [if_pos (by omega)]
              exact lp_readLine_91 hS hI0 hl0 hl1 hL17 (by omega) (by omega) (by omega) hQ2
            · skip
              refine j_vret rfl rfl ?_ rfl (Nat.le_refl _)
              first | (exfalso; omega) | exact ⟨rfl, by rw [← hQ]; unfold pLine pTest; dsimp only; rw [if_pos (by omega), hres3]; unfold pThen; dsimp only; rw [if_neg (by omega)]; exact ⟨hB.1, hB.2.1, hB.2.2⟩⟩
          · skip
            refine j_aload_n rfl rfl ?_
            refine j_callV (ci := 12) rfl okX12_wrong c_X12_222 (ct_X12_wrong (hL17.1.st hS) hL17.2.1) rfl rfl ((hL17.1.st hS).lt (by decide)) ((hL17.1.st hS).k (by decide) (by decide)) (by decide) rfl (Nat.le_of_ble_eq_true rfl) (RB.call hRB (by omega) (by decide)) ⟨Nat.le_refl _, Nat.le_refl _⟩ ?_
            have hz0 : (q.1 + kxt (chR m) q.1 58) = q.1 := by omega
            rw [hz0] at hL17
            rintro vq mq ⟨e1, e2⟩
            rw [if_neg (by rw [hL17.2.2.1.2.1]; decide), hL17.2.2.1.1] at e2
            rw [e1, e2]
            clear e1 e2
            simp only [Option.toList_some, Option.toList_none, List.cons_append, List.nil_append]
            have hB := hL17.bad (by omega) (by omega)
            have hB3 := hB.2.2.1
            refine j_aload_n rfl rfl ?_
            refine j_getI rfl f_X12_213 rfl ((hL17.1.st hS).lt (by decide)) ((hL17.1.st hS).k (by decide) (by decide)) ?_
            have u84_4 := mi_rng (si N16 86 18 q.1) 86 18
            refine j_if_lt (tgt := 91) rfl (by decide) (by omega) (by omega) (fun hb87_4 => ?_) (fun hb87_4 => ?_)
            · skip
              exfalso; omega
            · skip
              refine j_vret rfl rfl ?_ rfl (Nat.le_refl _)
              first | (exfalso; omega) | exact ⟨rfl, by rw [← hQ]; unfold pLine pTest; dsimp only; rw [if_pos (by omega), hres3]; unfold pThen; dsimp only; rw [if_neg (by omega)]; exact ⟨hB.1, hB.2.1, hB.2.2⟩⟩
  · skip
    exfalso; omega

theorem ct_X12_readLine12 {G : QW} {m : AM} {a : Int} {w : List (Nat × Int)} (hS : St m) (hI0 : IM m) (h : PS m a 0 w) (h6 : mi m 91 6 = 12) (ha0 : 0 ≤ a) (ha1 : a ≤ mi m 86 16) (hlw : (w.length : Int) ≤ a) : qM G mX12_readLine 44 0 0 [vR 86] m (fun r m' => r = none ∧ m' = si m 86 18 a) := by
  refine qM.intro okX12_readLine (Nat.le_of_ble_eq_true rfl) ?_
  have htp := hI0.s 86 16 0 160 (by decide)
  have hRB := RBn 44
  have hl6 : mi m 91 (6 : Int).toNat = 12 := h6
  refine j_aload_n rfl rfl ?_
  refine j_getR (q := 91) rfl f_X12_22 rfl (((FP.rf m).st hS).lt (by decide)) (((FP.rf m).st hS).k (by decide) (by decide)) (((FP.rf m).st hS).r (by decide)) ?_
  refine j_bipush rfl (by decide) ?_
  refine j_iald (n := 7) rfl (((FP.rf m).st hS).lt (by decide)) (((FP.rf m).st hS).k (by decide) (by decide)) (((FP.rf m).st hS).n (by decide) (by decide)) (by omega) (by omega) (by decide) ?_
  have u6_1 := hI0.a 91 (0) 12 (by decide) (6 : Int).toNat
  refine j_bipush rfl (by decide) ?_
  refine j_icmp_ne (tgt := 17) rfl (by decide) (by omega) (by omega) (by omega) (by omega) (fun hb9_1 => ?_) (fun hb9_1 => ?_)
  · skip
    exfalso; omega
  · skip
    refine j_aload_n rfl rfl ?_
    refine j_callV (ci := 12) rfl okX12_wrong c_X12_222 (ct_X12_wrong ((FP.rf m).st hS) hI0) rfl rfl (((FP.rf m).st hS).lt (by decide)) (((FP.rf m).st hS).k (by decide) (by decide)) (by decide) rfl (Nat.le_of_ble_eq_true rfl) (RB.call hRB (by omega) (by decide)) ⟨Nat.le_refl _, Nat.le_refl _⟩ ?_
    rintro vq mq ⟨e1, e2⟩
    rw [if_neg (by rw [h.2.1]; decide), h.1] at e2
    rw [e1, e2]
    clear e1 e2
    simp only [Option.toList_some, Option.toList_none, List.cons_append, List.nil_append]
    have hFw := (FP.rf m).one (o := 86) (k := 18) (Or.inr (by omega)) a
    have hIw := hI0.read (k := 18) (by omega) a
    refine j_vret rfl rfl ?_ rfl (Nat.le_refl _)
    exact ⟨rfl, rfl⟩


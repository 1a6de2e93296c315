set_option maxRecDepth 20000 in
set_option maxHeartbeats 4000000 in
theorem ct_X6_readOperand {G : QW} {k : Nat} {o : Int} (hok : o + k = 6) (ho0 : 0 ≤ o) (hsub : ∀ k2 : Nat, k = k2 + 1 → CtC G mX6_readOperand (3 + 7 * k2) [vR 1, vI (o + 1)] (fun c => pOpd c false (pSub c false k2)) ∧ CtC G mX6_readPart (9 + 7 * k2) [vR 1, vI 0, vI (o + 1)] (fun c => pEx c (pOpd c false (pSub c false k2)))) : CtC G mX6_readOperand (3 + 7 * k) [vR 1, vI o] (fun c => pOpd c false (pSub c false k)) := by
  intro q m r g h hb
  refine qM.intro okX6_readOperand (Nat.le_of_ble_eq_true rfl) ?_
  have hRB := RBn (3 + 7 * k)
  have hq : 62 ≤ q := g.2.1
  have hlen := g.2.2.2.2.1
  refine j_aload_n rfl rfl ?_
  refine j_callV (ci := 6) rfl okX6_next c_X6_90 (ct_X6_nextG g h hb) rfl rfl (g.1.lt (by decide)) (g.1.k (by decide) (by decide)) (by decide) rfl (Nat.le_of_ble_eq_true rfl) (RB.call hRB (by omega) (by decide)) ⟨Nat.le_refl _, Nat.le_refl _⟩ ?_
  rintro vq mq ⟨v1, e1, e2, hv2⟩
  rw [e1, e2]
  clear e1 e2
  simp only [Option.toList_some, Option.toList_none, List.cons_append, List.nil_append]
  unfold vCh at hv2
  refine j_istore_n rfl (by decide) ?_
  refine j_iload_n rfl rfl ?_
  refine j_bipush rfl (by decide) ?_
  refine j_icmp_lt (tgt := 24) rfl (by decide) (by omega) (by omega) (by omega) (by omega) (fun hb8_1 => ?_) (fun hb8_1 => ?_)
  · skip
    refine j_iload_n rfl rfl ?_
    refine j_bipush rfl (by decide) ?_
    refine j_icmp_eq (tgt := 43) rfl (by decide) (by omega) (by omega) (by omega) (by omega) (fun hb27_1 => ?_) (fun hb27_1 => ?_)
    · skip
      refine j_iload_n rfl rfl ?_
      refine j_bipush rfl (by decide) ?_
      refine j_icmp_ne (tgt := 57) rfl (by decide) (by omega) (by omega) (by omega) (by omega) (fun hb46_1 => ?_) (fun hb46_1 => ?_)
      · skip
        refine j_aload_n rfl rfl ?_
        refine j_bipush rfl (by decide) ?_
        refine j_callV (ci := 6) rfl okX6_takes c_X6_42 (ct_X6_takes g h hb (b := 45) (by decide)) rfl rfl (g.1.lt (by decide)) (g.1.k (by decide) (by decide)) (by decide) rfl (Nat.le_of_ble_eq_true rfl) (RB.call hRB (by omega) (by decide)) ⟨Nat.le_refl _, Nat.le_refl _⟩ ?_
        rintro vq M4 ht3
        rcases ht3 with ⟨hy5, e1, hF6, hC7⟩ | ⟨hy5, e1, e2⟩
        · rw [e1]
          simp only [Option.toList_some, Option.toList_none, List.cons_append, List.nil_append]
          have hB8 := PB.adv chC_end hb (c := chC m) (r := r) (by omega)
          refine j_if_eq (tgt := 86) rfl (by decide) (by decide) (by decide) (fun z => absurd z (by decide)) (fun _ => ?_)
          obtain ⟨k2, rfl⟩ : ∃ k2, k = k2 + 1 := ⟨k - 1, by omega⟩
          have hgs := pSub_good (chC_end (m := m)) false (k2 + 1) _ rfl
          refine j_aload_n rfl rfl ?_
          refine j_iload_n rfl rfl ?_
          refine j_iconst rfl ?_
          refine j_iadd rfl ?_
          refine j_callV (ci := 6) rfl okX6_readOperand c_X6_81 ((hsub k2 rfl).1 q M4 (pAdv r) (hF6.cg g) hC7 (by rw [show mi M4 1 1 = mi m 1 1 from hF6.cell (by omega) (by omega)]; exact (hB8.up (by decide)))) rfl rfl ((hF6.cg g).1.lt (by decide)) ((hF6.cg g).1.k (by decide) (by decide)) (by decide) rfl (Nat.le_of_ble_eq_true rfl) (RB.call hRB (by omega) (by decide)) ⟨Nat.le_refl _, Nat.le_refl _⟩ ?_
          rintro vq N9 ⟨e1, hF10, hC11⟩
          rw [e1]
          clear e1
          simp only [Option.toList_some, Option.toList_none, List.cons_append, List.nil_append]
          rw [hF6.ch hq] at hC11
          have hF10 := hF6.trans hF10
          have hC11 : CS q N9 (pThen (pAdv r) (pOpd (chC m) false (pSub (chC m) false k2))) := hC11
          have hB12 := pGood.pb hgs.1 hB8
          refine j_aload_n rfl rfl ?_
          refine j_getR (q := q) rfl f_X6_26 rfl ((hF10.cg g).1.lt (by decide)) ((hF10.cg g).1.k (by decide) (by decide)) (hF10.cg g).2.2.2.1 ?_
          refine j_bipush rfl (by decide) ?_
          refine j_iconst rfl ?_
          refine j_callV (ci := 5) rfl okX5_append c_X6_87 (ct_X5_append (by omega) (by omega) (by omega) (by omega) (hF10.cg g).2.2.1 (hC11.used hB12 (by omega) (by omega)).1) rfl rfl (hF10.cg g).2.2.1.1 (hF10.cg g).2.2.1.2.1 (by decide) rfl (Nat.le_of_ble_eq_true rfl) (RB.call hRB (by omega) (by decide)) ⟨Nat.le_refl _, Nat.le_refl _⟩ ?_
          rintro vq mq ⟨e1, e2⟩
          have e2 : mq = apM q N9 6 0 := e2
          rw [e1, e2]
          clear e1 e2
          simp only [Option.toList_some, Option.toList_none, List.cons_append, List.nil_append]
          have hC15 : CS q (apM q N9 6 0) (pApp (pThen (pAdv r) (pOpd (chC m) false (pSub (chC m) false k2))) 6 0) := CS.app hq hC11 hB12 (by omega) 6 0
          have hF14 := apM_fc hF10 6 0
          have hB16 := PB.app hB12 6 0
          generalize apM q N9 6 0 = N13 at hF14 hC15 ⊢
          refine j_goto (tgt := 109) rfl (by decide) ?_
          refine j_vret rfl rfl ?_ rfl (Nat.le_refl _)
          refine ⟨rfl, hF14, ?_⟩
          show CS q _ (pThen r (pOpd (chC m) false (pSub (chC m) false (k2 + 1))))
          rw [show pSub (chC m) false (k2 + 1) = some (pOpd (chC m) false (pSub (chC m) false k2), pEx (chC m) (pOpd (chC m) false (pSub (chC m) false k2))) from rfl, pOG_m hy5]
          exact hC15
        · rw [e1, e2]
          simp only [Option.toList_some, Option.toList_none, List.cons_append, List.nil_append]
          refine j_if_eq (tgt := 86) rfl (by decide) (by decide) (by decide) (fun _ => ?_) (fun z => absurd z (by decide))
          refine j_aload_n rfl rfl ?_
          refine j_bipush rfl (by decide) ?_
          refine j_callV (ci := 6) rfl okX6_takes c_X6_42 (ct_X6_takes g h hb (b := 40) (by decide)) rfl rfl (g.1.lt (by decide)) (g.1.k (by decide) (by decide)) (by decide) rfl (Nat.le_of_ble_eq_true rfl) (RB.call hRB (by omega) (by decide)) ⟨Nat.le_refl _, Nat.le_refl _⟩ ?_
          rintro vq M18 ht17
          rcases ht17 with ⟨hy19, e1, hF20, hC21⟩ | ⟨hy19, e1, e2⟩
          · rw [e1]
            simp only [Option.toList_some, Option.toList_none, List.cons_append, List.nil_append]
            have hB22 := PB.adv chC_end hb (c := chC m) (r := r) (by omega)
            refine j_if_eq (tgt := 109) rfl (by decide) (by decide) (by decide) (fun z => absurd z (by decide)) (fun _ => ?_)
            obtain ⟨k2, rfl⟩ : ∃ k2, k = k2 + 1 := ⟨k - 1, by omega⟩
            have hgs := pSub_good (chC_end (m := m)) false (k2 + 1) _ rfl
            refine j_aload_n rfl rfl ?_
            refine j_iconst rfl ?_
            refine j_iload_n rfl rfl ?_
            refine j_iconst rfl ?_
            refine j_iadd rfl ?_
            refine j_callV (ci := 6) rfl okX6_readPart c_X6_55 ((hsub k2 rfl).2 q M18 (pAdv r) (hF20.cg g) hC21 (by rw [show mi M18 1 1 = mi m 1 1 from hF20.cell (by omega) (by omega)]; exact (hB22.up (by decide)))) rfl rfl ((hF20.cg g).1.lt (by decide)) ((hF20.cg g).1.k (by decide) (by decide)) (by decide) rfl (Nat.le_of_ble_eq_true rfl) (RB.call hRB (by omega) (by decide)) ⟨Nat.le_refl _, Nat.le_refl _⟩ ?_
            rintro vq N23 ⟨e1, hF24, hC25⟩
            rw [e1]
            clear e1
            simp only [Option.toList_some, Option.toList_none, List.cons_append, List.nil_append]
            rw [hF20.ch hq] at hC25
            have hF24 := hF20.trans hF24
            have hC25 : CS q N23 (pThen (pAdv r) (pEx (chC m) (pOpd (chC m) false (pSub (chC m) false k2)))) := hC25
            have hB26 := pGood.pb hgs.2 hB22
            refine j_aload_n rfl rfl ?_
            refine j_bipush rfl (by decide) ?_
            refine j_callV (ci := 6) rfl okX6_need c_X6_59 (ct_X6_need (hF24.cg g) hC25 (by rw [show mi N23 1 1 = mi m 1 1 from hF24.cell (by omega) (by omega)]; exact (hB26.up (by decide))) (b := 41) (by decide)) rfl rfl ((hF24.cg g).1.lt (by decide)) ((hF24.cg g).1.k (by decide) (by decide)) (by decide) rfl (Nat.le_of_ble_eq_true rfl) (RB.call hRB (by omega) (by decide)) ⟨Nat.le_refl _, Nat.le_refl _⟩ ?_
            rintro vq N27 ⟨e1, hF28, hC29⟩
            rw [e1]
            clear e1
            simp only [Option.toList_some, Option.toList_none, List.cons_append, List.nil_append]
            rw [hF24.ch hq] at hC29
            have hF28 := hF24.trans hF28
            have hB30 := pNeed_pb (b := 41) chC_end (by decide) hB26
            refine j_vret rfl rfl ?_ rfl (Nat.le_refl _)
            refine ⟨rfl, hF28, ?_⟩
            show CS q _ (pThen r (pOpd (chC m) false (pSub (chC m) false (k2 + 1))))
            rw [show pSub (chC m) false (k2 + 1) = some (pOpd (chC m) false (pSub (chC m) false k2), pEx (chC m) (pOpd (chC m) false (pSub (chC m) false k2))) from rfl, pOG_p hy19]
            exact hC29
          · rw [e1, e2]
            simp only [Option.toList_some, Option.toList_none, List.cons_append, List.nil_append]
            refine j_if_eq (tgt := 109) rfl (by decide) (by decide) (by decide) (fun _ => ?_) (fun z => absurd z (by decide))
            refine j_vret rfl rfl ?_ rfl (Nat.le_refl _)
            exfalso
            omega
      · skip
        refine j_aload_n rfl rfl ?_
        refine j_iconst rfl ?_
        refine j_putZ rfl f_X6_22 (by omega) rfl (g.1.lt (by decide)) (g.1.k (by decide) (by decide)) ?_
        refine j_goto (tgt := 109) rfl (by decide) ?_
        refine j_vret rfl rfl ?_ rfl (Nat.le_refl _)
        refine ⟨rfl, (FC.rf q m).one (Or.inr (by omega)) _, ?_⟩
        obtain rfl : k = 0 := by omega
        show CS q _ (pThen r (pOpd (chC m) false (pSub (chC m) false 0)))
        rw [show pSub (chC m) false 0 = none from rfl, pOG_0 (by omega)]
        exact CS.err hq h hb (by omega) (by decide)
    · skip
      refine j_iload_n rfl rfl ?_
      refine j_bipush rfl (by decide) ?_
      refine j_icmp_eq (tgt := 43) rfl (by decide) (by omega) (by omega) (by omega) (by omega) (fun hb33_1 => ?_) (fun hb33_1 => ?_)
      · skip
        refine j_iload_n rfl rfl ?_
        refine j_bipush rfl (by decide) ?_
        refine j_icmp_ne (tgt := 57) rfl (by decide) (by omega) (by omega) (by omega) (by omega) (fun hb46_2 => ?_) (fun hb46_2 => ?_)
        · skip
          refine j_aload_n rfl rfl ?_
          refine j_bipush rfl (by decide) ?_
          refine j_callV (ci := 6) rfl okX6_takes c_X6_42 (ct_X6_takes g h hb (b := 45) (by decide)) rfl rfl (g.1.lt (by decide)) (g.1.k (by decide) (by decide)) (by decide) rfl (Nat.le_of_ble_eq_true rfl) (RB.call hRB (by omega) (by decide)) ⟨Nat.le_refl _, Nat.le_refl _⟩ ?_
          rintro vq M32 ht31
          rcases ht31 with ⟨hy33, e1, hF34, hC35⟩ | ⟨hy33, e1, e2⟩
          · rw [e1]
            simp only [Option.toList_some, Option.toList_none, List.cons_append, List.nil_append]
            have hB36 := PB.adv chC_end hb (c := chC m) (r := r) (by omega)
            refine j_if_eq (tgt := 86) rfl (by decide) (by decide) (by decide) (fun z => absurd z (by decide)) (fun _ => ?_)
            obtain ⟨k2, rfl⟩ : ∃ k2, k = k2 + 1 := ⟨k - 1, by omega⟩
            have hgs := pSub_good (chC_end (m := m)) false (k2 + 1) _ rfl
            refine j_aload_n rfl rfl ?_
            refine j_iload_n rfl rfl ?_
            refine j_iconst rfl ?_
            refine j_iadd rfl ?_
            refine j_callV (ci := 6) rfl okX6_readOperand c_X6_81 ((hsub k2 rfl).1 q M32 (pAdv r) (hF34.cg g) hC35 (by rw [show mi M32 1 1 = mi m 1 1 from hF34.cell (by omega) (by omega)]; exact (hB36.up (by decide)))) rfl rfl ((hF34.cg g).1.lt (by decide)) ((hF34.cg g).1.k (by decide) (by decide)) (by decide) rfl (Nat.le_of_ble_eq_true rfl) (RB.call hRB (by omega) (by decide)) ⟨Nat.le_refl _, Nat.le_refl _⟩ ?_
            rintro vq N37 ⟨e1, hF38, hC39⟩
            rw [e1]
            clear e1
            simp only [Option.toList_some, Option.toList_none, List.cons_append, List.nil_append]
            rw [hF34.ch hq] at hC39
            have hF38 := hF34.trans hF38
            have hC39 : CS q N37 (pThen (pAdv r) (pOpd (chC m) false (pSub (chC m) false k2))) := hC39
            have hB40 := pGood.pb hgs.1 hB36
            refine j_aload_n rfl rfl ?_
            refine j_getR (q := q) rfl f_X6_26 rfl ((hF38.cg g).1.lt (by decide)) ((hF38.cg g).1.k (by decide) (by decide)) (hF38.cg g).2.2.2.1 ?_
            refine j_bipush rfl (by decide) ?_
            refine j_iconst rfl ?_
            refine j_callV (ci := 5) rfl okX5_append c_X6_87 (ct_X5_append (by omega) (by omega) (by omega) (by omega) (hF38.cg g).2.2.1 (hC39.used hB40 (by omega) (by omega)).1) rfl rfl (hF38.cg g).2.2.1.1 (hF38.cg g).2.2.1.2.1 (by decide) rfl (Nat.le_of_ble_eq_true rfl) (RB.call hRB (by omega) (by decide)) ⟨Nat.le_refl _, Nat.le_refl _⟩ ?_
            rintro vq mq ⟨e1, e2⟩
            have e2 : mq = apM q N37 6 0 := e2
            rw [e1, e2]
            clear e1 e2
            simp only [Option.toList_some, Option.toList_none, List.cons_append, List.nil_append]
            have hC43 : CS q (apM q N37 6 0) (pApp (pThen (pAdv r) (pOpd (chC m) false (pSub (chC m) false k2))) 6 0) := CS.app hq hC39 hB40 (by omega) 6 0
            have hF42 := apM_fc hF38 6 0
            have hB44 := PB.app hB40 6 0
            generalize apM q N37 6 0 = N41 at hF42 hC43 ⊢
            refine j_goto (tgt := 109) rfl (by decide) ?_
            refine j_vret rfl rfl ?_ rfl (Nat.le_refl _)
            refine ⟨rfl, hF42, ?_⟩
            show CS q _ (pThen r (pOpd (chC m) false (pSub (chC m) false (k2 + 1))))
            rw [show pSub (chC m) false (k2 + 1) = some (pOpd (chC m) false (pSub (chC m) false k2), pEx (chC m) (pOpd (chC m) false (pSub (chC m) false k2))) from rfl, pOG_m hy33]
            exact hC43
          · rw [e1, e2]
            simp only [Option.toList_some, Option.toList_none, List.cons_append, List.nil_append]
            refine j_if_eq (tgt := 86) rfl (by decide) (by decide) (by decide) (fun _ => ?_) (fun z => absurd z (by decide))
            refine j_aload_n rfl rfl ?_
            refine j_bipush rfl (by decide) ?_
            refine j_callV (ci := 6) rfl okX6_takes c_X6_42 (ct_X6_takes g h hb (b := 40) (by decide)) rfl rfl (g.1.lt (by decide)) (g.1.k (by decide) (by decide)) (by decide) rfl (Nat.le_of_ble_eq_true rfl) (RB.call hRB (by omega) (by decide)) ⟨Nat.le_refl _, Nat.le_refl _⟩ ?_
            rintro vq M46 ht45
            rcases ht45 with ⟨hy47, e1, hF48, hC49⟩ | ⟨hy47, e1, e2⟩
            · rw [e1]
              simp only [Option.toList_some, Option.toList_none, List.cons_append, List.nil_append]
              have hB50 := PB.adv chC_end hb (c := chC m) (r := r) (by omega)
              refine j_if_eq (tgt := 109) rfl (by decide) (by decide) (by decide) (fun z => absurd z (by decide)) (fun _ => ?_)
              obtain ⟨k2, rfl⟩ : ∃ k2, k = k2 + 1 := ⟨k - 1, by omega⟩
              have hgs := pSub_good (chC_end (m := m)) false (k2 + 1) _ rfl
              refine j_aload_n rfl rfl ?_
              refine j_iconst rfl ?_
              refine j_iload_n rfl rfl ?_
              refine j_iconst rfl ?_
              refine j_iadd rfl ?_
              refine j_callV (ci := 6) rfl okX6_readPart c_X6_55 ((hsub k2 rfl).2 q M46 (pAdv r) (hF48.cg g) hC49 (by rw [show mi M46 1 1 = mi m 1 1 from hF48.cell (by omega) (by omega)]; exact (hB50.up (by decide)))) rfl rfl ((hF48.cg g).1.lt (by decide)) ((hF48.cg g).1.k (by decide) (by decide)) (by decide) rfl (Nat.le_of_ble_eq_true rfl) (RB.call hRB (by omega) (by decide)) ⟨Nat.le_refl _, Nat.le_refl _⟩ ?_
              rintro vq N51 ⟨e1, hF52, hC53⟩
              rw [e1]
              clear e1
              simp only [Option.toList_some, Option.toList_none, List.cons_append, List.nil_append]
              rw [hF48.ch hq] at hC53
              have hF52 := hF48.trans hF52
              have hC53 : CS q N51 (pThen (pAdv r) (pEx (chC m) (pOpd (chC m) false (pSub (chC m) false k2)))) := hC53
              have hB54 := pGood.pb hgs.2 hB50
              refine j_aload_n rfl rfl ?_
              refine j_bipush rfl (by decide) ?_
              refine j_callV (ci := 6) rfl okX6_need c_X6_59 (ct_X6_need (hF52.cg g) hC53 (by rw [show mi N51 1 1 = mi m 1 1 from hF52.cell (by omega) (by omega)]; exact (hB54.up (by decide))) (b := 41) (by decide)) rfl rfl ((hF52.cg g).1.lt (by decide)) ((hF52.cg g).1.k (by decide) (by decide)) (by decide) rfl (Nat.le_of_ble_eq_true rfl) (RB.call hRB (by omega) (by decide)) ⟨Nat.le_refl _, Nat.le_refl _⟩ ?_
              rintro vq N55 ⟨e1, hF56, hC57⟩
              rw [e1]
              clear e1
              simp only [Option.toList_some, Option.toList_none, List.cons_append, List.nil_append]
              rw [hF52.ch hq] at hC57
              have hF56 := hF52.trans hF56
              have hB58 := pNeed_pb (b := 41) chC_end (by decide) hB54
              refine j_vret rfl rfl ?_ rfl (Nat.le_refl _)
              refine ⟨rfl, hF56, ?_⟩
              show CS q _ (pThen r (pOpd (chC m) false (pSub (chC m) false (k2 + 1))))
              rw [show pSub (chC m) false (k2 + 1) = some (pOpd (chC m) false (pSub (chC m) false k2), pEx (chC m) (pOpd (chC m) false (pSub (chC m) false k2))) from rfl, pOG_p hy47]
              exact hC57
            · rw [e1, e2]
              simp only [Option.toList_some, Option.toList_none, List.cons_append, List.nil_append]
              refine j_if_eq (tgt := 109) rfl (by decide) (by decide) (by decide) (fun _ => ?_) (fun z => absurd z (by decide))
              refine j_vret rfl rfl ?_ rfl (Nat.le_refl _)
              exfalso
              omega
        · skip
          refine j_aload_n rfl rfl ?_
          refine j_iconst rfl ?_
          refine j_putZ rfl f_X6_22 (by omega) rfl (g.1.lt (by decide)) (g.1.k (by decide) (by decide)) ?_
          refine j_goto (tgt := 109) rfl (by decide) ?_
          refine j_vret rfl rfl ?_ rfl (Nat.le_refl _)
          refine ⟨rfl, (FC.rf q m).one (Or.inr (by omega)) _, ?_⟩
          obtain rfl : k = 0 := by omega
          show CS q _ (pThen r (pOpd (chC m) false (pSub (chC m) false 0)))
          rw [show pSub (chC m) false 0 = none from rfl, pOG_0 (by omega)]
          exact CS.err hq h hb (by omega) (by decide)
      · skip
        refine j_aload_n rfl rfl ?_
        refine j_callV (ci := 6) rfl okX6_readName c_X6_97 (ct_X6_readName q m r g h (hb.up (by decide))) rfl rfl (g.1.lt (by decide)) (g.1.k (by decide) (by decide)) (by decide) rfl (Nat.le_of_ble_eq_true rfl) (RB.call hRB (by omega) (by decide)) ⟨Nat.le_refl _, Nat.le_refl _⟩ ?_
        rintro vq N59 ⟨e1, hF60, hC61⟩
        rw [e1]
        clear e1
        simp only [Option.toList_some, Option.toList_none, List.cons_append, List.nil_append]
        have hC61 : CS q N59 (pThen r (pName (chC m))) := hC61
        refine j_goto (tgt := 109) rfl (by decide) ?_
        refine j_vret rfl rfl ?_ rfl (Nat.le_refl _)
        refine ⟨rfl, hF60, ?_⟩
        show CS q _ (pThen r (pOpd (chC m) false (pSub (chC m) false k)))
        rw [pOG_n (by omega) (by omega) (by omega)]
        exact hC61
  · skip
    refine j_iload_n rfl rfl ?_
    refine j_bipush rfl (by decide) ?_
    refine j_icmp_gt (tgt := 24) rfl (by decide) (by omega) (by omega) (by omega) (by omega) (fun hb14_1 => ?_) (fun hb14_1 => ?_)
    · skip
      refine j_iload_n rfl rfl ?_
      refine j_bipush rfl (by decide) ?_
      refine j_icmp_eq (tgt := 43) rfl (by decide) (by omega) (by omega) (by omega) (by omega) (fun hb27_2 => ?_) (fun hb27_2 => ?_)
      · skip
        refine j_iload_n rfl rfl ?_
        refine j_bipush rfl (by decide) ?_
        refine j_icmp_ne (tgt := 57) rfl (by decide) (by omega) (by omega) (by omega) (by omega) (fun hb46_3 => ?_) (fun hb46_3 => ?_)
        · skip
          refine j_aload_n rfl rfl ?_
          refine j_bipush rfl (by decide) ?_
          refine j_callV (ci := 6) rfl okX6_takes c_X6_42 (ct_X6_takes g h hb (b := 45) (by decide)) rfl rfl (g.1.lt (by decide)) (g.1.k (by decide) (by decide)) (by decide) rfl (Nat.le_of_ble_eq_true rfl) (RB.call hRB (by omega) (by decide)) ⟨Nat.le_refl _, Nat.le_refl _⟩ ?_
          rintro vq M64 ht63
          rcases ht63 with ⟨hy65, e1, hF66, hC67⟩ | ⟨hy65, e1, e2⟩
          · rw [e1]
            simp only [Option.toList_some, Option.toList_none, List.cons_append, List.nil_append]
            have hB68 := PB.adv chC_end hb (c := chC m) (r := r) (by omega)
            refine j_if_eq (tgt := 86) rfl (by decide) (by decide) (by decide) (fun z => absurd z (by decide)) (fun _ => ?_)
            obtain ⟨k2, rfl⟩ : ∃ k2, k = k2 + 1 := ⟨k - 1, by omega⟩
            have hgs := pSub_good (chC_end (m := m)) false (k2 + 1) _ rfl
            refine j_aload_n rfl rfl ?_
            refine j_iload_n rfl rfl ?_
            refine j_iconst rfl ?_
            refine j_iadd rfl ?_
            refine j_callV (ci := 6) rfl okX6_readOperand c_X6_81 ((hsub k2 rfl).1 q M64 (pAdv r) (hF66.cg g) hC67 (by rw [show mi M64 1 1 = mi m 1 1 from hF66.cell (by omega) (by omega)]; exact (hB68.up (by decide)))) rfl rfl ((hF66.cg g).1.lt (by decide)) ((hF66.cg g).1.k (by decide) (by decide)) (by decide) rfl (Nat.le_of_ble_eq_true rfl) (RB.call hRB (by omega) (by decide)) ⟨Nat.le_refl _, Nat.le_refl _⟩ ?_
            rintro vq N69 ⟨e1, hF70, hC71⟩
            rw [e1]
            clear e1
            simp only [Option.toList_some, Option.toList_none, List.cons_append, List.nil_append]
            rw [hF66.ch hq] at hC71
            have hF70 := hF66.trans hF70
            have hC71 : CS q N69 (pThen (pAdv r) (pOpd (chC m) false (pSub (chC m) false k2))) := hC71
            have hB72 := pGood.pb hgs.1 hB68
            refine j_aload_n rfl rfl ?_
            refine j_getR (q := q) rfl f_X6_26 rfl ((hF70.cg g).1.lt (by decide)) ((hF70.cg g).1.k (by decide) (by decide)) (hF70.cg g).2.2.2.1 ?_
            refine j_bipush rfl (by decide) ?_
            refine j_iconst rfl ?_
            refine j_callV (ci := 5) rfl okX5_append c_X6_87 (ct_X5_append (by omega) (by omega) (by omega) (by omega) (hF70.cg g).2.2.1 (hC71.used hB72 (by omega) (by omega)).1) rfl rfl (hF70.cg g).2.2.1.1 (hF70.cg g).2.2.1.2.1 (by decide) rfl (Nat.le_of_ble_eq_true rfl) (RB.call hRB (by omega) (by decide)) ⟨Nat.le_refl _, Nat.le_refl _⟩ ?_
            rintro vq mq ⟨e1, e2⟩
            have e2 : mq = apM q N69 6 0 := e2
            rw [e1, e2]
            clear e1 e2
            simp only [Option.toList_some, Option.toList_none, List.cons_append, List.nil_append]
            have hC75 : CS q (apM q N69 6 0) (pApp (pThen (pAdv r) (pOpd (chC m) false (pSub (chC m) false k2))) 6 0) := CS.app hq hC71 hB72 (by omega) 6 0
            have hF74 := apM_fc hF70 6 0
            have hB76 := PB.app hB72 6 0
            generalize apM q N69 6 0 = N73 at hF74 hC75 ⊢
            refine j_goto (tgt := 109) rfl (by decide) ?_
            refine j_vret rfl rfl ?_ rfl (Nat.le_refl _)
            refine ⟨rfl, hF74, ?_⟩
            show CS q _ (pThen r (pOpd (chC m) false (pSub (chC m) false (k2 + 1))))
            rw [show pSub (chC m) false (k2 + 1) = some (pOpd (chC m) false (pSub (chC m) false k2), pEx (chC m) (pOpd (chC m) false (pSub (chC m) false k2))) from rfl, pOG_m hy65]
            exact hC75
          · rw [e1, e2]
            simp only [Option.toList_some, Option.toList_none, List.cons_append, List.nil_append]
            refine j_if_eq (tgt := 86) rfl (by decide) (by decide) (by decide) (fun _ => ?_) (fun z => absurd z (by decide))
            refine j_aload_n rfl rfl ?_
            refine j_bipush rfl (by decide) ?_
            refine j_callV (ci := 6) rfl okX6_takes c_X6_42 (ct_X6_takes g h hb (b := 40) (by decide)) rfl rfl (g.1.lt (by decide)) (g.1.k (by decide) (by decide)) (by decide) rfl (Nat.le_of_ble_eq_true rfl) (RB.call hRB (by omega) (by decide)) ⟨Nat.le_refl _, Nat.le_refl _⟩ ?_
            rintro vq M78 ht77
            rcases ht77 with ⟨hy79, e1, hF80, hC81⟩ | ⟨hy79, e1, e2⟩
            · rw [e1]
              simp only [Option.toList_some, Option.toList_none, List.cons_append, List.nil_append]
              have hB82 := PB.adv chC_end hb (c := chC m) (r := r) (by omega)
              refine j_if_eq (tgt := 109) rfl (by decide) (by decide) (by decide) (fun z => absurd z (by decide)) (fun _ => ?_)
              obtain ⟨k2, rfl⟩ : ∃ k2, k = k2 + 1 := ⟨k - 1, by omega⟩
              have hgs := pSub_good (chC_end (m := m)) false (k2 + 1) _ rfl
              refine j_aload_n rfl rfl ?_
              refine j_iconst rfl ?_
              refine j_iload_n rfl rfl ?_
              refine j_iconst rfl ?_
              refine j_iadd rfl ?_
              refine j_callV (ci := 6) rfl okX6_readPart c_X6_55 ((hsub k2 rfl).2 q M78 (pAdv r) (hF80.cg g) hC81 (by rw [show mi M78 1 1 = mi m 1 1 from hF80.cell (by omega) (by omega)]; exact (hB82.up (by decide)))) rfl rfl ((hF80.cg g).1.lt (by decide)) ((hF80.cg g).1.k (by decide) (by decide)) (by decide) rfl (Nat.le_of_ble_eq_true rfl) (RB.call hRB (by omega) (by decide)) ⟨Nat.le_refl _, Nat.le_refl _⟩ ?_
              rintro vq N83 ⟨e1, hF84, hC85⟩
              rw [e1]
              clear e1
              simp only [Option.toList_some, Option.toList_none, List.cons_append, List.nil_append]
              rw [hF80.ch hq] at hC85
              have hF84 := hF80.trans hF84
              have hC85 : CS q N83 (pThen (pAdv r) (pEx (chC m) (pOpd (chC m) false (pSub (chC m) false k2)))) := hC85
              have hB86 := pGood.pb hgs.2 hB82
              refine j_aload_n rfl rfl ?_
              refine j_bipush rfl (by decide) ?_
              refine j_callV (ci := 6) rfl okX6_need c_X6_59 (ct_X6_need (hF84.cg g) hC85 (by rw [show mi N83 1 1 = mi m 1 1 from hF84.cell (by omega) (by omega)]; exact (hB86.up (by decide))) (b := 41) (by decide)) rfl rfl ((hF84.cg g).1.lt (by decide)) ((hF84.cg g).1.k (by decide) (by decide)) (by decide) rfl (Nat.le_of_ble_eq_true rfl) (RB.call hRB (by omega) (by decide)) ⟨Nat.le_refl _, Nat.le_refl _⟩ ?_
              rintro vq N87 ⟨e1, hF88, hC89⟩
              rw [e1]
              clear e1
              simp only [Option.toList_some, Option.toList_none, List.cons_append, List.nil_append]
              rw [hF84.ch hq] at hC89
              have hF88 := hF84.trans hF88
              have hB90 := pNeed_pb (b := 41) chC_end (by decide) hB86
              refine j_vret rfl rfl ?_ rfl (Nat.le_refl _)
              refine ⟨rfl, hF88, ?_⟩
              show CS q _ (pThen r (pOpd (chC m) false (pSub (chC m) false (k2 + 1))))
              rw [show pSub (chC m) false (k2 + 1) = some (pOpd (chC m) false (pSub (chC m) false k2), pEx (chC m) (pOpd (chC m) false (pSub (chC m) false k2))) from rfl, pOG_p hy79]
              exact hC89
            · rw [e1, e2]
              simp only [Option.toList_some, Option.toList_none, List.cons_append, List.nil_append]
              refine j_if_eq (tgt := 109) rfl (by decide) (by decide) (by decide) (fun _ => ?_) (fun z => absurd z (by decide))
              refine j_vret rfl rfl ?_ rfl (Nat.le_refl _)
              exfalso
              omega
        · skip
          refine j_aload_n rfl rfl ?_
          refine j_iconst rfl ?_
          refine j_putZ rfl f_X6_22 (by omega) rfl (g.1.lt (by decide)) (g.1.k (by decide) (by decide)) ?_
          refine j_goto (tgt := 109) rfl (by decide) ?_
          refine j_vret rfl rfl ?_ rfl (Nat.le_refl _)
          refine ⟨rfl, (FC.rf q m).one (Or.inr (by omega)) _, ?_⟩
          obtain rfl : k = 0 := by omega
          show CS q _ (pThen r (pOpd (chC m) false (pSub (chC m) false 0)))
          rw [show pSub (chC m) false 0 = none from rfl, pOG_0 (by omega)]
          exact CS.err hq h hb (by omega) (by decide)
      · skip
        refine j_iload_n rfl rfl ?_
        refine j_bipush rfl (by decide) ?_
        refine j_icmp_eq (tgt := 43) rfl (by decide) (by omega) (by omega) (by omega) (by omega) (fun hb33_2 => ?_) (fun hb33_2 => ?_)
        · skip
          refine j_iload_n rfl rfl ?_
          refine j_bipush rfl (by decide) ?_
          refine j_icmp_ne (tgt := 57) rfl (by decide) (by omega) (by omega) (by omega) (by omega) (fun hb46_4 => ?_) (fun hb46_4 => ?_)
          · skip
            refine j_aload_n rfl rfl ?_
            refine j_bipush rfl (by decide) ?_
            refine j_callV (ci := 6) rfl okX6_takes c_X6_42 (ct_X6_takes g h hb (b := 45) (by decide)) rfl rfl (g.1.lt (by decide)) (g.1.k (by decide) (by decide)) (by decide) rfl (Nat.le_of_ble_eq_true rfl) (RB.call hRB (by omega) (by decide)) ⟨Nat.le_refl _, Nat.le_refl _⟩ ?_
            rintro vq M92 ht91
            rcases ht91 with ⟨hy93, e1, hF94, hC95⟩ | ⟨hy93, e1, e2⟩
            · rw [e1]
              simp only [Option.toList_some, Option.toList_none, List.cons_append, List.nil_append]
              have hB96 := PB.adv chC_end hb (c := chC m) (r := r) (by omega)
              refine j_if_eq (tgt := 86) rfl (by decide) (by decide) (by decide) (fun z => absurd z (by decide)) (fun _ => ?_)
              obtain ⟨k2, rfl⟩ : ∃ k2, k = k2 + 1 := ⟨k - 1, by omega⟩
              have hgs := pSub_good (chC_end (m := m)) false (k2 + 1) _ rfl
              refine j_aload_n rfl rfl ?_
              refine j_iload_n rfl rfl ?_
              refine j_iconst rfl ?_
              refine j_iadd rfl ?_
              refine j_callV (ci := 6) rfl okX6_readOperand c_X6_81 ((hsub k2 rfl).1 q M92 (pAdv r) (hF94.cg g) hC95 (by rw [show mi M92 1 1 = mi m 1 1 from hF94.cell (by omega) (by omega)]; exact (hB96.up (by decide)))) rfl rfl ((hF94.cg g).1.lt (by decide)) ((hF94.cg g).1.k (by decide) (by decide)) (by decide) rfl (Nat.le_of_ble_eq_true rfl) (RB.call hRB (by omega) (by decide)) ⟨Nat.le_refl _, Nat.le_refl _⟩ ?_
              rintro vq N97 ⟨e1, hF98, hC99⟩
              rw [e1]
              clear e1
              simp only [Option.toList_some, Option.toList_none, List.cons_append, List.nil_append]
              rw [hF94.ch hq] at hC99
              have hF98 := hF94.trans hF98
              have hC99 : CS q N97 (pThen (pAdv r) (pOpd (chC m) false (pSub (chC m) false k2))) := hC99
              have hB100 := pGood.pb hgs.1 hB96
              refine j_aload_n rfl rfl ?_
              refine j_getR (q := q) rfl f_X6_26 rfl ((hF98.cg g).1.lt (by decide)) ((hF98.cg g).1.k (by decide) (by decide)) (hF98.cg g).2.2.2.1 ?_
              refine j_bipush rfl (by decide) ?_
              refine j_iconst rfl ?_
              refine j_callV (ci := 5) rfl okX5_append c_X6_87 (ct_X5_append (by omega) (by omega) (by omega) (by omega) (hF98.cg g).2.2.1 (hC99.used hB100 (by omega) (by omega)).1) rfl rfl (hF98.cg g).2.2.1.1 (hF98.cg g).2.2.1.2.1 (by decide) rfl (Nat.le_of_ble_eq_true rfl) (RB.call hRB (by omega) (by decide)) ⟨Nat.le_refl _, Nat.le_refl _⟩ ?_
              rintro vq mq ⟨e1, e2⟩
              have e2 : mq = apM q N97 6 0 := e2
              rw [e1, e2]
              clear e1 e2
              simp only [Option.toList_some, Option.toList_none, List.cons_append, List.nil_append]
              have hC103 : CS q (apM q N97 6 0) (pApp (pThen (pAdv r) (pOpd (chC m) false (pSub (chC m) false k2))) 6 0) := CS.app hq hC99 hB100 (by omega) 6 0
              have hF102 := apM_fc hF98 6 0
              have hB104 := PB.app hB100 6 0
              generalize apM q N97 6 0 = N101 at hF102 hC103 ⊢
              refine j_goto (tgt := 109) rfl (by decide) ?_
              refine j_vret rfl rfl ?_ rfl (Nat.le_refl _)
              refine ⟨rfl, hF102, ?_⟩
              show CS q _ (pThen r (pOpd (chC m) false (pSub (chC m) false (k2 + 1))))
              rw [show pSub (chC m) false (k2 + 1) = some (pOpd (chC m) false (pSub (chC m) false k2), pEx (chC m) (pOpd (chC m) false (pSub (chC m) false k2))) from rfl, pOG_m hy93]
              exact hC103
            · rw [e1, e2]
              simp only [Option.toList_some, Option.toList_none, List.cons_append, List.nil_append]
              refine j_if_eq (tgt := 86) rfl (by decide) (by decide) (by decide) (fun _ => ?_) (fun z => absurd z (by decide))
              refine j_aload_n rfl rfl ?_
              refine j_bipush rfl (by decide) ?_
              refine j_callV (ci := 6) rfl okX6_takes c_X6_42 (ct_X6_takes g h hb (b := 40) (by decide)) rfl rfl (g.1.lt (by decide)) (g.1.k (by decide) (by decide)) (by decide) rfl (Nat.le_of_ble_eq_true rfl) (RB.call hRB (by omega) (by decide)) ⟨Nat.le_refl _, Nat.le_refl _⟩ ?_
              rintro vq M106 ht105
              rcases ht105 with ⟨hy107, e1, hF108, hC109⟩ | ⟨hy107, e1, e2⟩
              · rw [e1]
                simp only [Option.toList_some, Option.toList_none, List.cons_append, List.nil_append]
                have hB110 := PB.adv chC_end hb (c := chC m) (r := r) (by omega)
                refine j_if_eq (tgt := 109) rfl (by decide) (by decide) (by decide) (fun z => absurd z (by decide)) (fun _ => ?_)
                obtain ⟨k2, rfl⟩ : ∃ k2, k = k2 + 1 := ⟨k - 1, by omega⟩
                have hgs := pSub_good (chC_end (m := m)) false (k2 + 1) _ rfl
                refine j_aload_n rfl rfl ?_
                refine j_iconst rfl ?_
                refine j_iload_n rfl rfl ?_
                refine j_iconst rfl ?_
                refine j_iadd rfl ?_
                refine j_callV (ci := 6) rfl okX6_readPart c_X6_55 ((hsub k2 rfl).2 q M106 (pAdv r) (hF108.cg g) hC109 (by rw [show mi M106 1 1 = mi m 1 1 from hF108.cell (by omega) (by omega)]; exact (hB110.up (by decide)))) rfl rfl ((hF108.cg g).1.lt (by decide)) ((hF108.cg g).1.k (by decide) (by decide)) (by decide) rfl (Nat.le_of_ble_eq_true rfl) (RB.call hRB (by omega) (by decide)) ⟨Nat.le_refl _, Nat.le_refl _⟩ ?_
                rintro vq N111 ⟨e1, hF112, hC113⟩
                rw [e1]
                clear e1
                simp only [Option.toList_some, Option.toList_none, List.cons_append, List.nil_append]
                rw [hF108.ch hq] at hC113
                have hF112 := hF108.trans hF112
                have hC113 : CS q N111 (pThen (pAdv r) (pEx (chC m) (pOpd (chC m) false (pSub (chC m) false k2)))) := hC113
                have hB114 := pGood.pb hgs.2 hB110
                refine j_aload_n rfl rfl ?_
                refine j_bipush rfl (by decide) ?_
                refine j_callV (ci := 6) rfl okX6_need c_X6_59 (ct_X6_need (hF112.cg g) hC113 (by rw [show mi N111 1 1 = mi m 1 1 from hF112.cell (by omega) (by omega)]; exact (hB114.up (by decide))) (b := 41) (by decide)) rfl rfl ((hF112.cg g).1.lt (by decide)) ((hF112.cg g).1.k (by decide) (by decide)) (by decide) rfl (Nat.le_of_ble_eq_true rfl) (RB.call hRB (by omega) (by decide)) ⟨Nat.le_refl _, Nat.le_refl _⟩ ?_
                rintro vq N115 ⟨e1, hF116, hC117⟩
                rw [e1]
                clear e1
                simp only [Option.toList_some, Option.toList_none, List.cons_append, List.nil_append]
                rw [hF112.ch hq] at hC117
                have hF116 := hF112.trans hF116
                have hB118 := pNeed_pb (b := 41) chC_end (by decide) hB114
                refine j_vret rfl rfl ?_ rfl (Nat.le_refl _)
                refine ⟨rfl, hF116, ?_⟩
                show CS q _ (pThen r (pOpd (chC m) false (pSub (chC m) false (k2 + 1))))
                rw [show pSub (chC m) false (k2 + 1) = some (pOpd (chC m) false (pSub (chC m) false k2), pEx (chC m) (pOpd (chC m) false (pSub (chC m) false k2))) from rfl, pOG_p hy107]
                exact hC117
              · rw [e1, e2]
                simp only [Option.toList_some, Option.toList_none, List.cons_append, List.nil_append]
                refine j_if_eq (tgt := 109) rfl (by decide) (by decide) (by decide) (fun _ => ?_) (fun z => absurd z (by decide))
                refine j_vret rfl rfl ?_ rfl (Nat.le_refl _)
                exfalso
                omega
          · skip
            refine j_aload_n rfl rfl ?_
            refine j_iconst rfl ?_
            refine j_putZ rfl f_X6_22 (by omega) rfl (g.1.lt (by decide)) (g.1.k (by decide) (by decide)) ?_
            refine j_goto (tgt := 109) rfl (by decide) ?_
            refine j_vret rfl rfl ?_ rfl (Nat.le_refl _)
            refine ⟨rfl, (FC.rf q m).one (Or.inr (by omega)) _, ?_⟩
            obtain rfl : k = 0 := by omega
            show CS q _ (pThen r (pOpd (chC m) false (pSub (chC m) false 0)))
            rw [show pSub (chC m) false 0 = none from rfl, pOG_0 (by omega)]
            exact CS.err hq h hb (by omega) (by decide)
        · skip
          refine j_aload_n rfl rfl ?_
          refine j_callV (ci := 6) rfl okX6_readName c_X6_97 (ct_X6_readName q m r g h (hb.up (by decide))) rfl rfl (g.1.lt (by decide)) (g.1.k (by decide) (by decide)) (by decide) rfl (Nat.le_of_ble_eq_true rfl) (RB.call hRB (by omega) (by decide)) ⟨Nat.le_refl _, Nat.le_refl _⟩ ?_
          rintro vq N119 ⟨e1, hF120, hC121⟩
          rw [e1]
          clear e1
          simp only [Option.toList_some, Option.toList_none, List.cons_append, List.nil_append]
          have hC121 : CS q N119 (pThen r (pName (chC m))) := hC121
          refine j_goto (tgt := 109) rfl (by decide) ?_
          refine j_vret rfl rfl ?_ rfl (Nat.le_refl _)
          refine ⟨rfl, hF120, ?_⟩
          show CS q _ (pThen r (pOpd (chC m) false (pSub (chC m) false k)))
          rw [pOG_n (by omega) (by omega) (by omega)]
          exact hC121
    · skip
      refine j_aload_n rfl rfl ?_
      refine j_callV (ci := 6) rfl okX6_readNumber c_X6_94 (ct_X6_readNumber g h hb (by omega)) rfl rfl (g.1.lt (by decide)) (g.1.k (by decide) (by decide)) (by decide) rfl (Nat.le_of_ble_eq_true rfl) (RB.call hRB (by omega) (by decide)) ⟨Nat.le_refl _, Nat.le_refl _⟩ ?_
      rintro vq N123 ⟨e1, hF124, hC125⟩
      rw [e1]
      clear e1
      simp only [Option.toList_some, Option.toList_none, List.cons_append, List.nil_append]
      have hC125 : CS q N123 (pThen r (pNum (chC m) false)) := hC125
      refine j_goto (tgt := 109) rfl (by decide) ?_
      refine j_vret rfl rfl ?_ rfl (Nat.le_refl _)
      refine ⟨rfl, hF124, ?_⟩
      show CS q _ (pThen r (pOpd (chC m) false (pSub (chC m) false k)))
      rw [pOG_d (by omega)]
      exact hC125


theorem ct_X12_opens {G : QW} {m : AM} {a o : Int} {w : List (Nat × Int)} (hS : St m) (hI0 : IM m) (h : PS m a o w) (ha0 : 0 ≤ a) (ha1 : a ≤ mi m 86 16) (hl : (w.length : Int) ≤ a) (ho : o ≤ 6) : qM G mX12_opens 1 0 0 [vR 86] m (fun r m' => (o = 6 ∧ r = some (vI 0) ∧ m' = si m 86 18 a) ∨ (o ≠ 6 ∧ r = some (vI 1) ∧ m' = si (si m 86 19 (o + 1)) 86 17 (a + 1))) := by
  refine qM.intro okX12_opens (Nat.le_of_ble_eq_true rfl) ?_
  have ho2 := h.2.2.1
  have htp := hI0.s 86 16 0 160 (by decide)
  have h20 : mi m 86 20 = w.length := h.2.2.2.1
  refine j_aload_n rfl rfl ?_
  refine j_getI rfl f_X12_219 rfl (((FP.rf m).st hS).lt (by decide)) (((FP.rf m).st hS).k (by decide) (by decide)) ?_
  have u1_1 := mi_rng m 86 19
  refine j_bipush rfl (by decide) ?_
  refine j_icmp_ne (tgt := 15) rfl (by decide) (by omega) (by omega) (by omega) (by omega) (fun hb6_1 => ?_) (fun hb6_1 => ?_)
  · skip
    refine j_aload_n rfl rfl ?_
    refine j_dup rfl (Nat.ne_of_beq_eq_false rfl) ?_
    refine j_getI rfl f_X12_219 rfl (((FP.rf m).st hS).lt (by decide)) (((FP.rf m).st hS).k (by decide) (by decide)) ?_
    have u17_1 := mi_rng m 86 19
    refine j_iconst rfl ?_
    refine j_iadd rfl ?_
    refine j_putI rfl f_X12_219 rfl (((FP.rf m).st hS).lt (by decide)) (((FP.rf m).st hS).k (by decide) (by decide)) ?_
    rw [h.2.2.1]
    refine j_aload_n rfl rfl ?_
    refine j_dup rfl (Nat.ne_of_beq_eq_false rfl) ?_
    refine j_getI rfl f_X12_210 rfl (((FP.rf m).st hS).lt (by decide)) (((FP.rf m).st hS).k (by decide) (by decide)) ?_
    have u27_1 := mi_rng (si m 86 19 (o + 1)) 86 17
    refine j_iconst rfl ?_
    refine j_iadd rfl ?_
    refine j_putI rfl f_X12_210 rfl (((FP.rf m).st hS).lt (by decide)) (((FP.rf m).st hS).k (by decide) (by decide)) ?_
    rw [show mi (si m 86 19 (o + 1)) 86 17 = a from (mi_si_ne _ _ (by decide)).trans h.1]
    refine j_iconst rfl ?_
    refine j_zret rfl rfl (by decide) ?_ rfl (Nat.le_refl _)
    refine Or.inr ⟨by omega, rfl, ?_⟩
    rfl
  · skip
    refine j_aload_n rfl rfl ?_
    refine j_callV (ci := 12) rfl okX12_wrong c_X12_222 (ct_X12_wrong ((FP.rf m).st hS) hI0) rfl rfl (((FP.rf m).st hS).lt (by decide)) (((FP.rf m).st hS).k (by decide) (by decide)) (by decide) rfl (Nat.le_of_ble_eq_true rfl) (by decide) (by decide) ?_
    rintro vq mq ⟨e1, e2⟩
    rw [if_neg (by rw [h.2.1]; decide), h.1] at e2
    rw [e1, e2]
    clear e1 e2
    simp only [Option.toList_some, Option.toList_none, List.cons_append, List.nil_append]
    have hFw := (FP.rf m).one (o := 86) (k := 18) (Or.inr (by omega)) a
    have hIw := hI0.read (k := 18) (by omega) a
    refine j_iconst rfl ?_
    refine j_zret rfl rfl (by decide) ?_ rfl (Nat.le_refl _)
    exact Or.inl ⟨by omega, rfl, rfl⟩

theorem ct_X12_isNext {G : QW} {m : AM} {a o : Int} {w : List (Nat × Int)} {b : Int} (hS : St m) (hI0 : IM m) (h : PS m a o w) (ha0 : 0 ≤ a) (ha1 : a ≤ mi m 86 16) (hl : (w.length : Int) ≤ a) (hb : 0 ≤ b ∧ b ≤ 200) : qM G mX12_isNext 1 0 0 [vR 86, vI b] m (fun r m' => (chR m a = b ∧ r = some (vI 1) ∧ m' = si m 86 17 (a + 1)) ∨ (chR m a ≠ b ∧ r = some (vI 0) ∧ m' = m)) := by
  refine qM.intro okX12_isNext (Nat.le_of_ble_eq_true rfl) ?_
  have htp := hI0.s 86 16 0 160 (by decide)
  have h20 : mi m 86 20 = w.length := h.2.2.2.1
  refine j_aload_n rfl rfl ?_
  refine j_callV (ci := 12) rfl okX12_look c_X12_225 (ct_X12_look ((FP.rf m).st hS) hI0 (by rw [h.1]; omega) (by rw [h.1]; omega)) rfl rfl (((FP.rf m).st hS).lt (by decide)) (((FP.rf m).st hS).k (by decide) (by decide)) (by decide) rfl (Nat.le_of_ble_eq_true rfl) (by decide) (by decide) ?_
  rintro vq mq ⟨e1, e2⟩
  rw [(FP.rf m).ch, h.1] at e1
  rw [e1, e2]
  clear e1 e2
  simp only [Option.toList_some, Option.toList_none, List.cons_append, List.nil_append]
  have cr1 := chR_rng hI0 a
  refine j_iload_n rfl rfl ?_
  refine j_icmp_eq (tgt := 10) rfl (by decide) (by omega) (by omega) (by omega) (by omega) (fun hb5_1 => ?_) (fun hb5_1 => ?_)
  · skip
    refine j_aload_n rfl rfl ?_
    refine j_dup rfl (Nat.ne_of_beq_eq_false rfl) ?_
    refine j_getI rfl f_X12_210 rfl (((FP.rf m).st hS).lt (by decide)) (((FP.rf m).st hS).k (by decide) (by decide)) ?_
    have u12_1 := mi_rng m 86 17
    refine j_iconst rfl ?_
    refine j_iadd rfl ?_
    refine j_putI rfl f_X12_210 rfl (((FP.rf m).st hS).lt (by decide)) (((FP.rf m).st hS).k (by decide) (by decide)) ?_
    rw [h.1]
    refine j_iconst rfl ?_
    refine j_zret rfl rfl (by decide) ?_ rfl (Nat.le_refl _)
    exact Or.inl ⟨by omega, rfl, rfl⟩
  · skip
    refine j_iconst rfl ?_
    refine j_zret rfl rfl (by decide) ?_ rfl (Nat.le_refl _)
    exact Or.inr ⟨by omega, rfl, rfl⟩

set_option maxHeartbeats 4000000 in
theorem ct_X12_indexed {G : QW} {m : AM} {a o : Int} {w : List (Nat × Int)} {what most : Int} (hS : St m) (hI0 : IM m) (h : PS m a o w) (ha0 : 0 ≤ a) (ha1 : a ≤ mi m 86 16) (hl : (w.length : Int) ≤ a) (hn : a < mi m 86 16) (hw : 2 ≤ what ∧ what ≤ 4) (hm : 0 ≤ most ∧ most ≤ 9) : qM G mX12_indexed 1 0 0 [vR 86, vI what, vI most] m (fun r m' => r = none ∧ PR m m' a o w (pIdx (chR m) (opM what) most (a, w))) := by
  refine qM.intro okX12_indexed (Nat.le_of_ble_eq_true rfl) ?_
  have htp := hI0.s 86 16 0 160 (by decide)
  have h20 : mi m 86 20 = w.length := h.2.2.2.1
  refine j_aload_n rfl rfl ?_
  refine j_dup rfl (Nat.ne_of_beq_eq_false rfl) ?_
  refine j_getI rfl f_X12_210 rfl (((FP.rf m).st hS).lt (by decide)) (((FP.rf m).st hS).k (by decide) (by decide)) ?_
  have u2_1 := mi_rng m 86 17
  refine j_iconst rfl ?_
  refine j_iadd rfl ?_
  refine j_putI rfl f_X12_210 rfl (((FP.rf m).st hS).lt (by decide)) (((FP.rf m).st hS).k (by decide) (by decide)) ?_
  rw [h.1]
  have hP3 := h.adv (b := (a + 1)) (by omega) (by omega)
  have hF2 := (FP.rf m).one (o := 86) (k := 17) (Or.inr (by omega)) (a + 1)
  have hI4 := hI0.read (k := 17) (by omega) (a + 1)
  generalize si m 86 17 (a + 1) = N1 at hP3 hF2 hI4 ⊢
  refine j_aload_n rfl rfl ?_
  refine j_callV (ci := 12) rfl okX12_look c_X12_225 (ct_X12_look (hF2.st hS) hI4 (by rw [hP3.1]; omega) (by rw [hP3.1]; omega)) rfl rfl ((hF2.st hS).lt (by decide)) ((hF2.st hS).k (by decide) (by decide)) (by decide) rfl (Nat.le_of_ble_eq_true rfl) (by decide) (by decide) ?_
  rintro vq mq ⟨e1, e2⟩
  rw [hF2.ch, hP3.1] at e1
  rw [e1, e2]
  clear e1 e2
  simp only [Option.toList_some, Option.toList_none, List.cons_append, List.nil_append]
  have cr5 := chR_rng hI0 (a + 1)
  refine j_bipush rfl (by decide) ?_
  refine j_bipush rfl (by decide) ?_
  refine j_iload_n rfl rfl ?_
  refine j_iadd rfl ?_
  refine j_callS (As := [_, _, _]) rfl okX12_in c_X12_194 (ct_X12_in (by omega) (by omega) (by omega) (by omega) (by omega) (by omega)) rfl rfl (Nat.le_of_ble_eq_true rfl) (by decide) (by decide) ?_
  rintro vq mq ⟨e1, e2⟩
  rw [e1, e2]
  clear e1 e2
  simp only [Option.toList_some, Option.toList_none, List.cons_append, List.nil_append]
  refine j_bif_ne (tgt := 31) rfl (by decide) (fun hb23_1 => ?_) (fun hb23_1 => ?_)
  · skip
    refine j_aload_n rfl rfl ?_
    refine j_iload_n rfl rfl ?_
    refine j_aload_n rfl rfl ?_
    refine j_callV (ci := 12) rfl okX12_look c_X12_225 (ct_X12_look (hF2.st hS) hI4 (by rw [hP3.1]; omega) (by rw [hP3.1]; omega)) rfl rfl ((hF2.st hS).lt (by decide)) ((hF2.st hS).k (by decide) (by decide)) (by decide) rfl (Nat.le_of_ble_eq_true rfl) (by decide) (by decide) ?_
    rintro vq mq ⟨e1, e2⟩
    rw [hF2.ch, hP3.1] at e1
    rw [e1, e2]
    clear e1 e2
    simp only [Option.toList_some, Option.toList_none, List.cons_append, List.nil_append]
    have cr6 := chR_rng hI0 (a + 1)
    refine j_bipush rfl (by decide) ?_
    refine j_isub rfl ?_
    refine j_callV (ci := 12) rfl okX12_lay c_X12_229 (ct_X12_lay (hF2.st hS) (by omega) (by rw [hP3.2.2.2.1]; omega) (by rw [hP3.2.2.2.1]; omega)) rfl rfl ((hF2.st hS).lt (by decide)) ((hF2.st hS).k (by decide) (by decide)) (by decide) rfl (Nat.le_of_ble_eq_true rfl) (by decide) (by decide) ?_
    rintro vq mq ⟨e1, e2⟩
    rw [e1, e2]
    clear e1 e2
    simp only [Option.toList_some, Option.toList_none, List.nil_append]
    have hP9 := layM_ps (what := what) (v := (chR m (a + 1)) - 48) hP3 (by omega) (by omega) (by omega)
    have hF8 := layM_fp (what := what) (v := (chR m (a + 1)) - 48) hF2 (by rw [hP3.2.2.2.1]; omega)
    have hI10 := layM_im (what := what) (v := (chR m (a + 1)) - 48) hI4 (by omega) (by omega)
    generalize layM N1 what ((chR m (a + 1)) - 48) = N7 at hP9 hF8 hI10 ⊢
    refine j_aload_n rfl rfl ?_
    refine j_dup rfl (Nat.ne_of_beq_eq_false rfl) ?_
    refine j_getI rfl f_X12_210 rfl ((hF8.st hS).lt (by decide)) ((hF8.st hS).k (by decide) (by decide)) ?_
    have u45_1 := mi_rng N7 86 17
    refine j_iconst rfl ?_
    refine j_iadd rfl ?_
    refine j_putI rfl f_X12_210 rfl ((hF8.st hS).lt (by decide)) ((hF8.st hS).k (by decide) (by decide)) ?_
    rw [hP9.1]
    have hP13 := hP9.adv (b := ((a + 1) + 1)) (by omega) (by omega)
    have hF12 := hF8.one (o := 86) (k := 17) (Or.inr (by omega)) ((a + 1) + 1)
    have hI14 := hI10.read (k := 17) (by omega) ((a + 1) + 1)
    generalize si N7 86 17 ((a + 1) + 1) = N11 at hP13 hF12 hI14 ⊢
    refine j_vret rfl rfl ?_ rfl (Nat.le_refl _)
    refine ⟨rfl, ?_⟩
    unfold pIdx
    rw [if_pos (by dsimp only; omega)]
    exact ⟨hF12, hI14, hP13⟩
  · skip
    refine j_aload_n rfl rfl ?_
    refine j_callV (ci := 12) rfl okX12_wrong c_X12_222 (ct_X12_wrong (hF2.st hS) hI4) rfl rfl ((hF2.st hS).lt (by decide)) ((hF2.st hS).k (by decide) (by decide)) (by decide) rfl (Nat.le_of_ble_eq_true rfl) (by decide) (by decide) ?_
    rintro vq mq ⟨e1, e2⟩
    rw [if_neg (by rw [hP3.2.1]; decide), hP3.1] at e2
    rw [e1, e2]
    clear e1 e2
    simp only [Option.toList_some, Option.toList_none, List.cons_append, List.nil_append]
    have hFw := hF2.one (o := 86) (k := 18) (Or.inr (by omega)) (a + 1)
    have hIw := hI4.read (k := 18) (by omega) (a + 1)
    refine j_vret rfl rfl ?_ rfl (Nat.le_refl _)
    refine ⟨rfl, ?_⟩
    unfold pIdx
    rw [if_neg (by dsimp only; omega)]
    exact ⟨hFw, hIw, hP3.bad (by omega) (by rw [hF2.cell (by decide) (by decide)]; omega) (by omega) (by omega) (by omega)⟩


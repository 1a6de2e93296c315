set_option maxRecDepth 20000 in
set_option maxHeartbeats 4000000 in
theorem lp_number_4 {G : QW} {m : AM} {o : Int} {w : List (Nat × Int)} {E : Int × Int × Int} {Rp : Option Vl → AM → Prop} (hS : St m) (hI0 : IM m) (hexit : ∀ N, FP m N → PS N E.1 o w → IM N → 0 ≤ E.2.1 → E.2.1 ≤ 99999 → qJ G mX12_number { frames := 1, cells := 0, slots := 0, locals := 60 * 1 } (qF G Rp 0 0) 52 [(0, vR 86), (1, vI E.2.1), (2, vI E.2.2)] [] N 0 0) : ∀ (x : Nat) (b v n : Int) (N : AM) (bb : Int), FP m N → PS N b o w → IM N → n + x = 5 → 0 ≤ b → b ≤ mi m 86 16 → 0 ≤ n → 0 ≤ v → v < bb → bb * 10 ^ x = 100000 → pNumL (chR m) x b v n = E → qJ G mX12_number { frames := 1, cells := 0, slots := 0, locals := 60 * 1 } (qF G Rp 0 0) 4 [(0, vR 86), (1, vI v), (2, vI n)] [] N 0 0 := by
  have htp := hI0.s 86 16 0 160 (by decide)
  intro x
  induction x with
  | zero =>
    intro b v n N bb hF hP hI hx hb0 hb1 hn0 hv0 hv1 hbb hE
    have hvb : v ≤ 99999 := by
      rw [Int.pow_zero, Int.mul_one] at hbb
      omega
    have hE : (b, v, n) = E := hE
    refine j_iload_n rfl rfl ?_
    refine j_iconst rfl ?_
    refine j_icmp_ge (tgt := 52) rfl (by decide) (by omega) (by omega) (by omega) (by omega) (fun hb6_1 => ?_) (fun hb6_1 => ?_)
    · skip
      subst hE
      refine j_loc (ls' := [(0, vR 86), (1, vI v), (2, vI n)]) rfl ?_
      exact hexit N hF hP hI hv0 hvb
    · skip
      exfalso; omega
  | succ x ih =>
    intro b v n N bb hF hP hI hx hb0 hb1 hn0 hv0 hv1 hbb hE
    have hvb : v ≤ 99999 := by
      have h3 : (1 : Int) ≤ 10 ^ (x + 1) := Int.pow_pos (by decide)
      have h4 : bb * 1 ≤ bb * 10 ^ (x + 1) := Int.mul_le_mul_of_nonneg_left h3 (by omega)
      omega
    simp only [pNumL] at hE
    refine j_iload_n rfl rfl ?_
    refine j_iconst rfl ?_
    refine j_icmp_ge (tgt := 52) rfl (by decide) (by omega) (by omega) (by omega) (by omega) (fun hb6_1 => ?_) (fun hb6_1 => ?_)
    · skip
      exfalso; omega
    · skip
      refine j_aload_n rfl rfl ?_
      refine j_callV (ci := 12) rfl okX12_look c_X12_225 (ct_X12_look (hF.st hS) hI (by rw [hP.1]; omega) (by rw [hP.1]; omega)) rfl rfl ((hF.st hS).lt (by decide)) ((hF.st hS).k (by decide) (by decide)) (by decide) rfl (Nat.le_of_ble_eq_true rfl) (by decide) (by decide) ?_
      rintro vq mq ⟨e1, e2⟩
      rw [hF.ch, hP.1] at e1
      rw [e1, e2]
      clear e1 e2
      simp only [Option.toList_some, Option.toList_none, List.cons_append, List.nil_append]
      have cr1 := chR_rng hI0 b
      refine j_bipush rfl (by decide) ?_
      refine j_bipush rfl (by decide) ?_
      refine j_callS (As := [_, _, _]) rfl okX12_in c_X12_194 (ct_X12_in (by omega) (by omega) (by omega) (by omega) (by omega) (by omega)) rfl rfl (Nat.le_of_ble_eq_true rfl) (by decide) (by decide) ?_
      rintro vq mq ⟨e1, e2⟩
      rw [e1, e2]
      clear e1 e2
      simp only [Option.toList_some, Option.toList_none, List.cons_append, List.nil_append]
      refine j_bif_eq (tgt := 52) rfl (by decide) (fun hb20_1 => ?_) (fun hb20_1 => ?_)
      · skip
        rw [if_neg (by omega)] at hE
        subst hE
        refine j_loc (ls' := [(0, vR 86), (1, vI v), (2, vI n)]) rfl ?_
        exact hexit N hF hP hI hv0 (by omega)
      · skip
        refine j_bipush rfl (by decide) ?_
        refine j_iload_n rfl rfl ?_
        refine j_imul rfl ?_
        refine j_aload_n rfl rfl ?_
        refine j_callV (ci := 12) rfl okX12_look c_X12_225 (ct_X12_look (hF.st hS) hI (by rw [hP.1]; omega) (by rw [hP.1]; omega)) rfl rfl ((hF.st hS).lt (by decide)) ((hF.st hS).k (by decide) (by decide)) (by decide) rfl (Nat.le_of_ble_eq_true rfl) (by decide) (by decide) ?_
        rintro vq mq ⟨e1, e2⟩
        rw [hF.ch, hP.1] at e1
        rw [e1, e2]
        clear e1 e2
        simp only [Option.toList_some, Option.toList_none, List.cons_append, List.nil_append]
        have cr2 := chR_rng hI0 b
        refine j_iadd rfl ?_
        refine j_bipush rfl (by decide) ?_
        refine j_isub rfl ?_
        refine j_istore_n rfl (by decide) ?_
        refine j_iinc rfl rfl (by decide) ?_
        refine j_aload_n rfl rfl ?_
        refine j_dup rfl (Nat.ne_of_beq_eq_false rfl) ?_
        refine j_getI rfl f_X12_210 rfl ((hF.st hS).lt (by decide)) ((hF.st hS).k (by decide) (by decide)) ?_
        have u41_1 := mi_rng N 86 17
        refine j_iconst rfl ?_
        refine j_iadd rfl ?_
        refine j_putI rfl f_X12_210 rfl ((hF.st hS).lt (by decide)) ((hF.st hS).k (by decide) (by decide)) ?_
        rw [hP.1]
        have hP5 := hP.adv (b := (b + 1)) (by omega) (by omega)
        have hF4 := hF.one (o := 86) (k := 17) (Or.inr (by omega)) (b + 1)
        have hI6 := hI.read (k := 17) (by omega) (b + 1)
        generalize si N 86 17 (b + 1) = N3 at hP5 hF4 hI6 ⊢
        refine j_goto (tgt := 4) rfl (by decide) ?_
        refine j_loc (ls' := [(0, vR 86), (1, vI (((10 * v) + chR m b) - 48)), (2, vI (n + 1))]) rfl ?_
        rw [if_pos (by omega)] at hE
        exact ih (b + 1) _ (n + 1) _ (bb * 10) hF4 hP5 hI6 (by omega) (by omega) (by have := lt_end (chR_end m) (a := b) (by omega); omega) (by omega) (by omega) (by omega) (by rw [← hbb, Int.pow_succ, Int.mul_comm (10 ^ x) 10, ← Int.mul_assoc]) hE

set_option maxRecDepth 20000 in
set_option maxHeartbeats 4000000 in
theorem ct_X12_number {G : QW} {m : AM} {a o : Int} {w : List (Nat × Int)} (hS : St m) (hI0 : IM m) (h : PS m a o w) (ha0 : 0 ≤ a) (ha1 : a ≤ mi m 86 16) (hl : (w.length : Int) ≤ a) : qM G mX12_number 1 0 0 [vR 86] m (fun r m' => r = none ∧ PR m m' a o w (pNum (chR m) true (a, w))) := by
  refine qM.intro okX12_number (Nat.le_of_ble_eq_true rfl) ?_
  have htp := hI0.s 86 16 0 160 (by decide)
  have h20 : mi m 86 20 = w.length := h.2.2.2.1
  have hr := pNumL_r (chR_end m) 5 a 0 0 ha1
  refine j_iconst rfl ?_
  refine j_istore_n rfl (by decide) ?_
  refine j_iconst rfl ?_
  refine j_istore_n rfl (by decide) ?_
  refine j_loc (ls' := [(0, vR 86), (1, vI 0), (2, vI 0)]) rfl ?_
  refine lp_number_4 (E := (pNumL (chR m) 5 a 0 0)) hS hI0 (fun N hF hP hI hv0 hv1 => ?_) 5 a 0 0 m 1 (FP.rf m) h hI0 (by decide) ha0 ha1 (by decide) (by decide) (by decide) (by decide) rfl
  refine j_iload_n rfl rfl ?_
  refine j_if_eq (tgt := 70) rfl (by decide) (by omega) (by omega) (fun hb53_1 => ?_) (fun hb53_1 => ?_)
  · skip
    refine j_aload_n rfl rfl ?_
    refine j_callV (ci := 12) rfl okX12_wrong c_X12_222 (ct_X12_wrong (hF.st hS) hI) rfl rfl ((hF.st hS).lt (by decide)) ((hF.st hS).k (by decide) (by decide)) (by decide) rfl (Nat.le_of_ble_eq_true rfl) (by decide) (by decide) ?_
    rintro vq mq ⟨e1, e2⟩
    rw [if_neg (by rw [hP.2.1]; decide), hP.1] at e2
    rw [e1, e2]
    clear e1 e2
    simp only [Option.toList_some, Option.toList_none, List.cons_append, List.nil_append]
    have hFw := hF.one (o := 86) (k := 18) (Or.inr (by omega)) ((pNumL (chR m) 5 a 0 0).1)
    have hIw := hI.read (k := 18) (by omega) ((pNumL (chR m) 5 a 0 0).1)
    have e20 : mi (si N 86 18 ((pNumL (chR m) 5 a 0 0).1)) 86 20 = w.length := (mi_si_ne _ _ (by decide)).trans hP.2.2.2.1
    have hXw : PX (si N 86 18 ((pNumL (chR m) 5 a 0 0).1)) a ((w.length : Int) - 1) (pNumL (chR m) 5 a 0 0).1 := hP.bad (by omega) (by rw [hF.cell (by decide) (by decide)]; omega) (by omega) (by omega) (by omega)
    refine j_aload_n rfl rfl ?_
    refine j_iconst rfl ?_
    refine j_iload_n rfl rfl ?_
    refine j_callV (ci := 12) rfl okX12_lay c_X12_229 (ct_X12_lay (hFw.st hS) (by omega) (by rw [e20]; omega) (by rw [e20]; omega)) rfl rfl ((hF.st hS).lt (by decide)) ((hF.st hS).k (by decide) (by decide)) (by decide) rfl (Nat.le_of_ble_eq_true rfl) (by decide) (by decide) ?_
    rintro vq mq ⟨e1, e2⟩
    rw [e1, e2]
    clear e1 e2
    simp only [Option.toList_some, Option.toList_none, List.nil_append]
    refine j_vret rfl rfl ?_ rfl (Nat.le_refl _)
    refine ⟨rfl, ?_⟩
    unfold pNum
    rw [if_pos (by dsimp only; first | exact Or.inl (by omega) | exact Or.inr ⟨rfl, by omega, by omega⟩)]
    exact ⟨layM_fp hFw (by rw [e20]; omega), layM_im hIw (by omega) (by omega), layM_px (len := (w.length : Int) - 1) hXw 1 _ (Int.le_refl _) (by omega) (by rw [e20]; omega)⟩
  · skip
    refine j_aload_n rfl rfl ?_
    refine j_callV (ci := 12) rfl okX12_look c_X12_225 (ct_X12_look (hF.st hS) hI (by rw [hP.1]; omega) (by rw [hP.1]; omega)) rfl rfl ((hF.st hS).lt (by decide)) ((hF.st hS).k (by decide) (by decide)) (by decide) rfl (Nat.le_of_ble_eq_true rfl) (by decide) (by decide) ?_
    rintro vq mq ⟨e1, e2⟩
    rw [hF.ch, hP.1] at e1
    rw [e1, e2]
    clear e1 e2
    simp only [Option.toList_some, Option.toList_none, List.cons_append, List.nil_append]
    have cr1 := chR_rng hI0 ((pNumL (chR m) 5 a 0 0).1)
    refine j_bipush rfl (by decide) ?_
    refine j_bipush rfl (by decide) ?_
    refine j_callS (As := [_, _, _]) rfl okX12_in c_X12_194 (ct_X12_in (by omega) (by omega) (by omega) (by omega) (by omega) (by omega)) rfl rfl (Nat.le_of_ble_eq_true rfl) (by decide) (by decide) ?_
    rintro vq mq ⟨e1, e2⟩
    rw [e1, e2]
    clear e1 e2
    simp only [Option.toList_some, Option.toList_none, List.cons_append, List.nil_append]
    refine j_bif_eq (tgt := 74) rfl (by decide) (fun hb67_1 => ?_) (fun hb67_1 => ?_)
    · skip
      refine j_aload_n rfl rfl ?_
      refine j_iconst rfl ?_
      refine j_iload_n rfl rfl ?_
      refine j_callV (ci := 12) rfl okX12_lay c_X12_229 (ct_X12_lay (hF.st hS) (by omega) (by rw [hP.2.2.2.1]; omega) (by rw [hP.2.2.2.1]; omega)) rfl rfl ((hF.st hS).lt (by decide)) ((hF.st hS).k (by decide) (by decide)) (by decide) rfl (Nat.le_of_ble_eq_true rfl) (by decide) (by decide) ?_
      rintro vq mq ⟨e1, e2⟩
      rw [e1, e2]
      clear e1 e2
      simp only [Option.toList_some, Option.toList_none, List.nil_append]
      have hP4 := layM_ps (what := 1) (v := (pNumL (chR m) 5 a 0 0).2.1) hP (by omega) (by omega) (by omega)
      have hF3 := layM_fp (what := 1) (v := (pNumL (chR m) 5 a 0 0).2.1) hF (by rw [hP.2.2.2.1]; omega)
      have hI5 := layM_im (what := 1) (v := (pNumL (chR m) 5 a 0 0).2.1) hI (by omega) (by omega)
      generalize layM N 1 ((pNumL (chR m) 5 a 0 0).2.1) = N2 at hP4 hF3 hI5 ⊢
      refine j_vret rfl rfl ?_ rfl (Nat.le_refl _)
      refine ⟨rfl, ?_⟩
      unfold pNum
      rw [if_neg (by dsimp only; rintro (q | ⟨-, q1, q2⟩) <;> omega)]
      exact ⟨hF3, hI5, hP4⟩
    · skip
      refine j_aload_n rfl rfl ?_
      refine j_callV (ci := 12) rfl okX12_wrong c_X12_222 (ct_X12_wrong (hF.st hS) hI) rfl rfl ((hF.st hS).lt (by decide)) ((hF.st hS).k (by decide) (by decide)) (by decide) rfl (Nat.le_of_ble_eq_true rfl) (by decide) (by decide) ?_
      rintro vq mq ⟨e1, e2⟩
      rw [if_neg (by rw [hP.2.1]; decide), hP.1] at e2
      rw [e1, e2]
      clear e1 e2
      simp only [Option.toList_some, Option.toList_none, List.cons_append, List.nil_append]
      have hFw := hF.one (o := 86) (k := 18) (Or.inr (by omega)) ((pNumL (chR m) 5 a 0 0).1)
      have hIw := hI.read (k := 18) (by omega) ((pNumL (chR m) 5 a 0 0).1)
      have e20 : mi (si N 86 18 ((pNumL (chR m) 5 a 0 0).1)) 86 20 = w.length := (mi_si_ne _ _ (by decide)).trans hP.2.2.2.1
      have hXw : PX (si N 86 18 ((pNumL (chR m) 5 a 0 0).1)) a ((w.length : Int) - 1) (pNumL (chR m) 5 a 0 0).1 := hP.bad (by omega) (by rw [hF.cell (by decide) (by decide)]; omega) (by omega) (by omega) (by omega)
      refine j_aload_n rfl rfl ?_
      refine j_iconst rfl ?_
      refine j_iload_n rfl rfl ?_
      refine j_callV (ci := 12) rfl okX12_lay c_X12_229 (ct_X12_lay (hFw.st hS) (by omega) (by rw [e20]; omega) (by rw [e20]; omega)) rfl rfl ((hF.st hS).lt (by decide)) ((hF.st hS).k (by decide) (by decide)) (by decide) rfl (Nat.le_of_ble_eq_true rfl) (by decide) (by decide) ?_
      rintro vq mq ⟨e1, e2⟩
      rw [e1, e2]
      clear e1 e2
      simp only [Option.toList_some, Option.toList_none, List.nil_append]
      refine j_vret rfl rfl ?_ rfl (Nat.le_refl _)
      refine ⟨rfl, ?_⟩
      unfold pNum
      rw [if_pos (by dsimp only; first | exact Or.inl (by omega) | exact Or.inr ⟨rfl, by omega, by omega⟩)]
      exact ⟨layM_fp hFw (by rw [e20]; omega), layM_im hIw (by omega) (by omega), layM_px (len := (w.length : Int) - 1) hXw 1 _ (Int.le_refl _) (by omega) (by rw [e20]; omega)⟩


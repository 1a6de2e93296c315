theorem opM_P {x : Int} (h : x = 42 ∨ x = 47 ∨ x = 37) : opM x = opP x := by rcases h with rfl | rfl | rfl <;> decide
theorem opM_S {x : Int} (h : x = 43 ∨ x = 45) : opM x = opS x := by rcases h with rfl | rfl <;> decide
theorem opM_C {x : Int} (h : x = 60 ∨ x = 61 ∨ x = 62) : opM x = opC x := by rcases h with rfl | rfl | rfl <;> decide
theorem opP_0 {x : Int} (h : x ≠ 42 ∧ x ≠ 47 ∧ x ≠ 37) : opP x = 0 := by unfold opP; rw [if_neg h.1, if_neg h.2.1, if_neg h.2.2]
theorem opS_0 {x : Int} (h : x ≠ 43 ∧ x ≠ 45) : opS x = 0 := by unfold opS; rw [if_neg h.1, if_neg h.2]
theorem opC_0 {x : Int} (h : x ≠ 60 ∧ x ≠ 61 ∧ x ≠ 62) : opC x = 0 := by unfold opC; rw [if_neg h.1, if_neg h.2.1, if_neg h.2.2]
theorem opA_0 {x : Int} (h : x ≠ 38) : opA x = 0 := by unfold opA; rw [if_neg h]
theorem opO_0 {x : Int} (h : x ≠ 124) : opO x = 0 := by unfold opO; rw [if_neg h]
theorem opM_A {x : Int} (h : x = 38) : opM x = opA x := by rw [h]; decide
theorem opM_O {x : Int} (h : x = 124) : opM x = opO x := by rw [h]; decide

set_option maxRecDepth 20000 in
set_option maxHeartbeats 4000000 in
theorem lp_X12_product_4 {G : QW} {m : AM} {a o : Int} {w : List (Nat × Int)} {d : Nat} {f : (Int → Int) → PSt → PRes} {R : PRes} (hf : CtP G mX12_operand d o f) (hg : pGood (chR m) (mi m 86 16) (f (chR m))) (hS : St m) (hI0 : IM m) (ha0 : 0 ≤ a) (hl : (w.length : Int) ≤ a) (hd1 : 1 ≤ d) : ∀ (x : Nat) (b : Int) (v : List (Nat × Int)) (N : AM), FP m N → IM N → PS N b o v → a < b → b ≤ mi m 86 16 → (v.length : Int) ≤ w.length + (b - a) → mi m 86 16 - b < x → pLoop (chR m) opP (f (chR m)) x (b, v) = R → qJ G mX12_product { frames := d + 1, cells := 0, slots := 0, locals := 60 * (d + 1) } (qF G (fun r m' => r = none ∧ PR m m' a o w R) 0 0) 4 [(0, vR 86)] [] N 0 0 := by
  have htp := hI0.s 86 16 0 160 (by decide)
  have hRB := RBn (d + 1)
  intro x
  induction x with
  | zero => intro b v N _ _ _ _ h1 _ h2 _; exact absurd h2 (by omega)
  | succ x ih =>
    intro b v N hF hI hP hb0 hb1 hlv hx hR
    have h18 := hP.2.1
    simp only [pLoop] at hR
    refine j_aload_n rfl rfl ?_
    refine j_getI rfl f_X12_213 rfl ((hF.st hS).lt (by decide)) ((hF.st hS).k (by decide) (by decide)) ?_
    have u5_1 := mi_rng N 86 18
    refine j_if_ge (tgt := 66) rfl (by decide) (by omega) (by omega) (fun hb8_1 => ?_) (fun hb8_1 => ?_)
    · skip
      exfalso; omega
    · skip
      refine j_aload_n rfl rfl ?_
      refine j_callV (ci := 12) rfl okX12_look c_X12_225 (ct_X12_look (hF.st hS) hI (by rw [hP.1]; omega) (by rw [hP.1]; omega)) rfl rfl ((hF.st hS).lt (by decide)) ((hF.st hS).k (by decide) (by decide)) (by decide) rfl (Nat.le_of_ble_eq_true rfl) (RB.call hRB (by omega) (by decide)) ⟨Nat.le_refl _, Nat.le_refl _⟩ ?_
      rintro vq mq ⟨e1, e2⟩
      rw [hF.ch, hP.1] at e1
      rw [e1, e2]
      clear e1 e2
      simp only [Option.toList_some, Option.toList_none, List.cons_append, List.nil_append]
      have cr1 := chR_rng hI0 b
      refine j_bipush rfl (by decide) ?_
      refine j_icmp_eq (tgt := 38) rfl (by decide) (by omega) (by omega) (by omega) (by omega) (fun hb17_1 => ?_) (fun hb17_1 => ?_)
      · skip
        refine j_aload_n rfl rfl ?_
        refine j_callV (ci := 12) rfl okX12_look c_X12_225 (ct_X12_look (hF.st hS) hI (by rw [hP.1]; omega) (by rw [hP.1]; omega)) rfl rfl ((hF.st hS).lt (by decide)) ((hF.st hS).k (by decide) (by decide)) (by decide) rfl (Nat.le_of_ble_eq_true rfl) (RB.call hRB (by omega) (by decide)) ⟨Nat.le_refl _, Nat.le_refl _⟩ ?_
        rintro vq mq ⟨e1, e2⟩
        rw [hF.ch, hP.1] at e1
        rw [e1, e2]
        clear e1 e2
        simp only [Option.toList_some, Option.toList_none, List.cons_append, List.nil_append]
        have cr2 := chR_rng hI0 b
        refine j_istore_n rfl (by decide) ?_
        refine j_aload_n rfl rfl ?_
        refine j_dup rfl (Nat.ne_of_beq_eq_false rfl) ?_
        refine j_getI rfl f_X12_210 rfl ((hF.st hS).lt (by decide)) ((hF.st hS).k (by decide) (by decide)) ?_
        have u45_1 := mi_rng N 86 17
        refine j_iconst rfl ?_
        refine j_iadd rfl ?_
        refine j_putI rfl f_X12_210 rfl ((hF.st hS).lt (by decide)) ((hF.st hS).k (by decide) (by decide)) ?_
        have hlt := lt_end (chR_end m) (a := b) (by omega)
        rw [hP.1]
        have hP5 := hP.adv (b := (b + 1)) (by omega) (by omega)
        have hF4 := hF.one (o := 86) (k := 17) (Or.inr (by omega)) (b + 1)
        have hI6 := hI.read (k := 17) (by omega) (b + 1)
        generalize si N 86 17 (b + 1) = N3 at hP5 hF4 hI6 ⊢
        refine j_aload_n rfl rfl ?_
        refine j_callV (ci := 12) rfl okX12_operand c_X12_240 (hf N3 (b + 1) v (hF4.st hS) hI6 hP5 (by omega) (by rw [show mi N3 86 16 = mi m 86 16 from hF4.cell (by decide) (by decide)]; omega) (by omega)) rfl rfl ((hF4.st hS).lt (by decide)) ((hF4.st hS).k (by decide) (by decide)) (by decide) rfl (Nat.le_of_ble_eq_true rfl) (RB.call hRB (by omega) (by decide)) ⟨Nat.le_refl _, Nat.le_refl _⟩ ?_
        rintro vq N2 ⟨e1, hR2⟩
        rw [e1]
        clear e1
        simp only [Option.toList_some, Option.toList_none, List.nil_append]
        rw [hF4.ch] at hR2
        have hne : ¬ opP (chR m b) = 0 := by intro q; unfold opP at q; (repeat' split at q) <;> omega
        rw [if_neg hne] at hR
        have hopm : opM (chR m b) = opP (chR m b) := opM_P (by omega)
        cases hres : f (chR m) (b + 1, v) with
        | error p =>
          rw [hres] at hR2 hR
          obtain ⟨hFb, hIb, hX⟩ := hR2
          have hX : PX N2 (b + 1) v.length p := hX
          have hFc := hF4.trans hFb
          have hX0 := hX
          obtain ⟨x1, x2, x3, x4, x5, x6⟩ := hX0
          have ecN : mi N2 86 16 = mi m 86 16 := hFc.cell (by decide) (by decide)
          refine j_aload_n rfl rfl ?_
          refine j_iload_n rfl rfl ?_
          refine j_iconst rfl ?_
          refine j_callV (ci := 12) rfl okX12_lay c_X12_229 (ct_X12_lay (hFc.st hS) (by omega) (by omega) (by omega)) rfl rfl ((hFc.st hS).lt (by decide)) ((hFc.st hS).k (by decide) (by decide)) (by decide) rfl (Nat.le_of_ble_eq_true rfl) (RB.call hRB (by omega) (by decide)) ⟨Nat.le_refl _, Nat.le_refl _⟩ ?_
          rintro vq mq ⟨e1, e2⟩
          rw [e1, e2]
          clear e1 e2
          simp only [Option.toList_some, Option.toList_none, List.nil_append]
          have hXl : PX (layM N2 (chR m b) 0) a w.length p := layM_px hX (chR m b) 0 (by omega) (by omega) (by omega)
          have hFl : FP m (layM N2 (chR m b) 0) := layM_fp hFc (by omega)
          have hIl : IM (layM N2 (chR m b) 0) := layM_im hIb (by omega) (by decide)
          have h18 := hXl.1
          refine j_goto (tgt := 4) rfl (by decide) ?_
          refine j_aload_n rfl rfl ?_
          refine j_getI rfl f_X12_213 rfl ((hFl.st hS).lt (by decide)) ((hFl.st hS).k (by decide) (by decide)) ?_
          have u5_2 := mi_rng (layM N2 (chR m b) 0) 86 18
          refine j_if_ge (tgt := 66) rfl (by decide) (by omega) (by omega) (fun hb8_2 => ?_) (fun hb8_2 => ?_)
          · skip
            refine j_vret rfl rfl ?_ rfl (Nat.le_refl _)
            have hR : (Except.error p : PRes) = R := hR
            subst hR
            exact ⟨rfl, hFl, hIl, hXl⟩
          · skip
            exfalso; omega
        | ok q =>
          rw [hres] at hR2 hR
          obtain ⟨hFb, hIb, hPb⟩ := hR2
          have hPb : PS N2 q.1 o q.2 := hPb
          have hFc := hF4.trans hFb
          obtain ⟨g1, g2, w2, g3, g4, g5, -⟩ := (hg (b + 1) v (by omega) (by omega)).1 q hres
          have g7 : (q.2.length : Int) ≤ v.length + (q.1 - (b + 1)) := by rw [g3, List.length_append]; omega
          refine j_aload_n rfl rfl ?_
          refine j_iload_n rfl rfl ?_
          refine j_iconst rfl ?_
          refine j_callV (ci := 12) rfl okX12_lay c_X12_229 (ct_X12_lay (hFc.st hS) (by omega) (by rw [hPb.2.2.2.1]; omega) (by rw [hPb.2.2.2.1]; omega)) rfl rfl ((hFc.st hS).lt (by decide)) ((hFc.st hS).k (by decide) (by decide)) (by decide) rfl (Nat.le_of_ble_eq_true rfl) (RB.call hRB (by omega) (by decide)) ⟨Nat.le_refl _, Nat.le_refl _⟩ ?_
          rintro vq mq ⟨e1, e2⟩
          rw [e1, e2]
          clear e1 e2
          simp only [Option.toList_some, Option.toList_none, List.nil_append]
          have hP9 := layM_ps (what := chR m b) (v := 0) hPb (by omega) (by omega) (by omega)
          have hF8 := layM_fp (what := chR m b) (v := 0) hFc (by rw [hPb.2.2.2.1]; omega)
          have hI10 := layM_im (what := chR m b) (v := 0) hIb (by omega) (by omega)
          generalize layM N2 (chR m b) 0 = N7 at hP9 hF8 hI10 ⊢
          refine j_goto (tgt := 4) rfl (by decide) ?_
          refine j_loc (ls' := [(0, vR 86)]) rfl ?_
          rw [show opM (chR m b) = opP (chR m b) from by first | exact hopm | (rw [← hopm]; congr 1; omega)] at hP9
          exact ih q.1 (q.2 ++ [(opP (chR m b), 0)]) N7 hF8 hI10 hP9 (by omega) g2 (by rw [List.length_append]; show ((q.2.length + 1 : Nat) : Int) ≤ _; omega) (by omega) hR
      · skip
        refine j_aload_n rfl rfl ?_
        refine j_callV (ci := 12) rfl okX12_look c_X12_225 (ct_X12_look (hF.st hS) hI (by rw [hP.1]; omega) (by rw [hP.1]; omega)) rfl rfl ((hF.st hS).lt (by decide)) ((hF.st hS).k (by decide) (by decide)) (by decide) rfl (Nat.le_of_ble_eq_true rfl) (RB.call hRB (by omega) (by decide)) ⟨Nat.le_refl _, Nat.le_refl _⟩ ?_
        rintro vq mq ⟨e1, e2⟩
        rw [hF.ch, hP.1] at e1
        rw [e1, e2]
        clear e1 e2
        simp only [Option.toList_some, Option.toList_none, List.cons_append, List.nil_append]
        have cr11 := chR_rng hI0 b
        refine j_bipush rfl (by decide) ?_
        refine j_icmp_eq (tgt := 38) rfl (by decide) (by omega) (by omega) (by omega) (by omega) (fun hb26_1 => ?_) (fun hb26_1 => ?_)
        · skip
          refine j_aload_n rfl rfl ?_
          refine j_callV (ci := 12) rfl okX12_look c_X12_225 (ct_X12_look (hF.st hS) hI (by rw [hP.1]; omega) (by rw [hP.1]; omega)) rfl rfl ((hF.st hS).lt (by decide)) ((hF.st hS).k (by decide) (by decide)) (by decide) rfl (Nat.le_of_ble_eq_true rfl) (RB.call hRB (by omega) (by decide)) ⟨Nat.le_refl _, Nat.le_refl _⟩ ?_
          rintro vq mq ⟨e1, e2⟩
          rw [hF.ch, hP.1] at e1
          rw [e1, e2]
          clear e1 e2
          simp only [Option.toList_some, Option.toList_none, List.cons_append, List.nil_append]
          have cr12 := chR_rng hI0 b
          refine j_istore_n rfl (by decide) ?_
          refine j_aload_n rfl rfl ?_
          refine j_dup rfl (Nat.ne_of_beq_eq_false rfl) ?_
          refine j_getI rfl f_X12_210 rfl ((hF.st hS).lt (by decide)) ((hF.st hS).k (by decide) (by decide)) ?_
          have u45_2 := mi_rng N 86 17
          refine j_iconst rfl ?_
          refine j_iadd rfl ?_
          refine j_putI rfl f_X12_210 rfl ((hF.st hS).lt (by decide)) ((hF.st hS).k (by decide) (by decide)) ?_
          have hlt := lt_end (chR_end m) (a := b) (by omega)
          rw [hP.1]
          have hP15 := hP.adv (b := (b + 1)) (by omega) (by omega)
          have hF14 := hF.one (o := 86) (k := 17) (Or.inr (by omega)) (b + 1)
          have hI16 := hI.read (k := 17) (by omega) (b + 1)
          generalize si N 86 17 (b + 1) = N13 at hP15 hF14 hI16 ⊢
          refine j_aload_n rfl rfl ?_
          refine j_callV (ci := 12) rfl okX12_operand c_X12_240 (hf N13 (b + 1) v (hF14.st hS) hI16 hP15 (by omega) (by rw [show mi N13 86 16 = mi m 86 16 from hF14.cell (by decide) (by decide)]; omega) (by omega)) rfl rfl ((hF14.st hS).lt (by decide)) ((hF14.st hS).k (by decide) (by decide)) (by decide) rfl (Nat.le_of_ble_eq_true rfl) (RB.call hRB (by omega) (by decide)) ⟨Nat.le_refl _, Nat.le_refl _⟩ ?_
          rintro vq N2 ⟨e1, hR2⟩
          rw [e1]
          clear e1
          simp only [Option.toList_some, Option.toList_none, List.nil_append]
          rw [hF14.ch] at hR2
          have hne : ¬ opP (chR m b) = 0 := by intro q; unfold opP at q; (repeat' split at q) <;> omega
          rw [if_neg hne] at hR
          have hopm : opM (chR m b) = opP (chR m b) := opM_P (by omega)
          cases hres : f (chR m) (b + 1, v) with
          | error p =>
            rw [hres] at hR2 hR
            obtain ⟨hFb, hIb, hX⟩ := hR2
            have hX : PX N2 (b + 1) v.length p := hX
            have hFc := hF14.trans hFb
            have hX0 := hX
            obtain ⟨x1, x2, x3, x4, x5, x6⟩ := hX0
            have ecN : mi N2 86 16 = mi m 86 16 := hFc.cell (by decide) (by decide)
            refine j_aload_n rfl rfl ?_
            refine j_iload_n rfl rfl ?_
            refine j_iconst rfl ?_
            refine j_callV (ci := 12) rfl okX12_lay c_X12_229 (ct_X12_lay (hFc.st hS) (by omega) (by omega) (by omega)) rfl rfl ((hFc.st hS).lt (by decide)) ((hFc.st hS).k (by decide) (by decide)) (by decide) rfl (Nat.le_of_ble_eq_true rfl) (RB.call hRB (by omega) (by decide)) ⟨Nat.le_refl _, Nat.le_refl _⟩ ?_
            rintro vq mq ⟨e1, e2⟩
            rw [e1, e2]
            clear e1 e2
            simp only [Option.toList_some, Option.toList_none, List.nil_append]
            have hXl : PX (layM N2 (chR m b) 0) a w.length p := layM_px hX (chR m b) 0 (by omega) (by omega) (by omega)
            have hFl : FP m (layM N2 (chR m b) 0) := layM_fp hFc (by omega)
            have hIl : IM (layM N2 (chR m b) 0) := layM_im hIb (by omega) (by decide)
            have h18 := hXl.1
            refine j_goto (tgt := 4) rfl (by decide) ?_
            refine j_aload_n rfl rfl ?_
            refine j_getI rfl f_X12_213 rfl ((hFl.st hS).lt (by decide)) ((hFl.st hS).k (by decide) (by decide)) ?_
            have u5_3 := mi_rng (layM N2 (chR m b) 0) 86 18
            refine j_if_ge (tgt := 66) rfl (by decide) (by omega) (by omega) (fun hb8_3 => ?_) (fun hb8_3 => ?_)
            · skip
              refine j_vret rfl rfl ?_ rfl (Nat.le_refl _)
              have hR : (Except.error p : PRes) = R := hR
              subst hR
              exact ⟨rfl, hFl, hIl, hXl⟩
            · skip
              exfalso; omega
          | ok q =>
            rw [hres] at hR2 hR
            obtain ⟨hFb, hIb, hPb⟩ := hR2
            have hPb : PS N2 q.1 o q.2 := hPb
            have hFc := hF14.trans hFb
            obtain ⟨g1, g2, w2, g3, g4, g5, -⟩ := (hg (b + 1) v (by omega) (by omega)).1 q hres
            have g7 : (q.2.length : Int) ≤ v.length + (q.1 - (b + 1)) := by rw [g3, List.length_append]; omega
            refine j_aload_n rfl rfl ?_
            refine j_iload_n rfl rfl ?_
            refine j_iconst rfl ?_
            refine j_callV (ci := 12) rfl okX12_lay c_X12_229 (ct_X12_lay (hFc.st hS) (by omega) (by rw [hPb.2.2.2.1]; omega) (by rw [hPb.2.2.2.1]; omega)) rfl rfl ((hFc.st hS).lt (by decide)) ((hFc.st hS).k (by decide) (by decide)) (by decide) rfl (Nat.le_of_ble_eq_true rfl) (RB.call hRB (by omega) (by decide)) ⟨Nat.le_refl _, Nat.le_refl _⟩ ?_
            rintro vq mq ⟨e1, e2⟩
            rw [e1, e2]
            clear e1 e2
            simp only [Option.toList_some, Option.toList_none, List.nil_append]
            have hP19 := layM_ps (what := chR m b) (v := 0) hPb (by omega) (by omega) (by omega)
            have hF18 := layM_fp (what := chR m b) (v := 0) hFc (by rw [hPb.2.2.2.1]; omega)
            have hI20 := layM_im (what := chR m b) (v := 0) hIb (by omega) (by omega)
            generalize layM N2 (chR m b) 0 = N17 at hP19 hF18 hI20 ⊢
            refine j_goto (tgt := 4) rfl (by decide) ?_
            refine j_loc (ls' := [(0, vR 86)]) rfl ?_
            rw [show opM (chR m b) = opP (chR m b) from by first | exact hopm | (rw [← hopm]; congr 1; omega)] at hP19
            exact ih q.1 (q.2 ++ [(opP (chR m b), 0)]) N17 hF18 hI20 hP19 (by omega) g2 (by rw [List.length_append]; show ((q.2.length + 1 : Nat) : Int) ≤ _; omega) (by omega) hR
        · skip
          refine j_aload_n rfl rfl ?_
          refine j_callV (ci := 12) rfl okX12_look c_X12_225 (ct_X12_look (hF.st hS) hI (by rw [hP.1]; omega) (by rw [hP.1]; omega)) rfl rfl ((hF.st hS).lt (by decide)) ((hF.st hS).k (by decide) (by decide)) (by decide) rfl (Nat.le_of_ble_eq_true rfl) (RB.call hRB (by omega) (by decide)) ⟨Nat.le_refl _, Nat.le_refl _⟩ ?_
          rintro vq mq ⟨e1, e2⟩
          rw [hF.ch, hP.1] at e1
          rw [e1, e2]
          clear e1 e2
          simp only [Option.toList_some, Option.toList_none, List.cons_append, List.nil_append]
          have cr21 := chR_rng hI0 b
          refine j_bipush rfl (by decide) ?_
          refine j_icmp_ne (tgt := 66) rfl (by decide) (by omega) (by omega) (by omega) (by omega) (fun hb35_1 => ?_) (fun hb35_1 => ?_)
          · skip
            refine j_vret rfl rfl ?_ rfl (Nat.le_refl _)
            have h0 : opP (chR m b) = 0 := opP_0 (by omega)
            rw [if_pos h0] at hR
            subst hR
            exact ⟨rfl, hF, hI, hP⟩
          · skip
            refine j_aload_n rfl rfl ?_
            refine j_callV (ci := 12) rfl okX12_look c_X12_225 (ct_X12_look (hF.st hS) hI (by rw [hP.1]; omega) (by rw [hP.1]; omega)) rfl rfl ((hF.st hS).lt (by decide)) ((hF.st hS).k (by decide) (by decide)) (by decide) rfl (Nat.le_of_ble_eq_true rfl) (RB.call hRB (by omega) (by decide)) ⟨Nat.le_refl _, Nat.le_refl _⟩ ?_
            rintro vq mq ⟨e1, e2⟩
            rw [hF.ch, hP.1] at e1
            rw [e1, e2]
            clear e1 e2
            simp only [Option.toList_some, Option.toList_none, List.cons_append, List.nil_append]
            have cr22 := chR_rng hI0 b
            refine j_istore_n rfl (by decide) ?_
            refine j_aload_n rfl rfl ?_
            refine j_dup rfl (Nat.ne_of_beq_eq_false rfl) ?_
            refine j_getI rfl f_X12_210 rfl ((hF.st hS).lt (by decide)) ((hF.st hS).k (by decide) (by decide)) ?_
            have u45_3 := mi_rng N 86 17
            refine j_iconst rfl ?_
            refine j_iadd rfl ?_
            refine j_putI rfl f_X12_210 rfl ((hF.st hS).lt (by decide)) ((hF.st hS).k (by decide) (by decide)) ?_
            have hlt := lt_end (chR_end m) (a := b) (by omega)
            rw [hP.1]
            have hP25 := hP.adv (b := (b + 1)) (by omega) (by omega)
            have hF24 := hF.one (o := 86) (k := 17) (Or.inr (by omega)) (b + 1)
            have hI26 := hI.read (k := 17) (by omega) (b + 1)
            generalize si N 86 17 (b + 1) = N23 at hP25 hF24 hI26 ⊢
            refine j_aload_n rfl rfl ?_
            refine j_callV (ci := 12) rfl okX12_operand c_X12_240 (hf N23 (b + 1) v (hF24.st hS) hI26 hP25 (by omega) (by rw [show mi N23 86 16 = mi m 86 16 from hF24.cell (by decide) (by decide)]; omega) (by omega)) rfl rfl ((hF24.st hS).lt (by decide)) ((hF24.st hS).k (by decide) (by decide)) (by decide) rfl (Nat.le_of_ble_eq_true rfl) (RB.call hRB (by omega) (by decide)) ⟨Nat.le_refl _, Nat.le_refl _⟩ ?_
            rintro vq N2 ⟨e1, hR2⟩
            rw [e1]
            clear e1
            simp only [Option.toList_some, Option.toList_none, List.nil_append]
            rw [hF24.ch] at hR2
            have hne : ¬ opP (chR m b) = 0 := by intro q; unfold opP at q; (repeat' split at q) <;> omega
            rw [if_neg hne] at hR
            have hopm : opM (chR m b) = opP (chR m b) := opM_P (by omega)
            cases hres : f (chR m) (b + 1, v) with
            | error p =>
              rw [hres] at hR2 hR
              obtain ⟨hFb, hIb, hX⟩ := hR2
              have hX : PX N2 (b + 1) v.length p := hX
              have hFc := hF24.trans hFb
              have hX0 := hX
              obtain ⟨x1, x2, x3, x4, x5, x6⟩ := hX0
              have ecN : mi N2 86 16 = mi m 86 16 := hFc.cell (by decide) (by decide)
              refine j_aload_n rfl rfl ?_
              refine j_iload_n rfl rfl ?_
              refine j_iconst rfl ?_
              refine j_callV (ci := 12) rfl okX12_lay c_X12_229 (ct_X12_lay (hFc.st hS) (by omega) (by omega) (by omega)) rfl rfl ((hFc.st hS).lt (by decide)) ((hFc.st hS).k (by decide) (by decide)) (by decide) rfl (Nat.le_of_ble_eq_true rfl) (RB.call hRB (by omega) (by decide)) ⟨Nat.le_refl _, Nat.le_refl _⟩ ?_
              rintro vq mq ⟨e1, e2⟩
              rw [e1, e2]
              clear e1 e2
              simp only [Option.toList_some, Option.toList_none, List.nil_append]
              have hXl : PX (layM N2 (chR m b) 0) a w.length p := layM_px hX (chR m b) 0 (by omega) (by omega) (by omega)
              have hFl : FP m (layM N2 (chR m b) 0) := layM_fp hFc (by omega)
              have hIl : IM (layM N2 (chR m b) 0) := layM_im hIb (by omega) (by decide)
              have h18 := hXl.1
              refine j_goto (tgt := 4) rfl (by decide) ?_
              refine j_aload_n rfl rfl ?_
              refine j_getI rfl f_X12_213 rfl ((hFl.st hS).lt (by decide)) ((hFl.st hS).k (by decide) (by decide)) ?_
              have u5_4 := mi_rng (layM N2 (chR m b) 0) 86 18
              refine j_if_ge (tgt := 66) rfl (by decide) (by omega) (by omega) (fun hb8_4 => ?_) (fun hb8_4 => ?_)
              · skip
                refine j_vret rfl rfl ?_ rfl (Nat.le_refl _)
                have hR : (Except.error p : PRes) = R := hR
                subst hR
                exact ⟨rfl, hFl, hIl, hXl⟩
              · skip
                exfalso; omega
            | ok q =>
              rw [hres] at hR2 hR
              obtain ⟨hFb, hIb, hPb⟩ := hR2
              have hPb : PS N2 q.1 o q.2 := hPb
              have hFc := hF24.trans hFb
              obtain ⟨g1, g2, w2, g3, g4, g5, -⟩ := (hg (b + 1) v (by omega) (by omega)).1 q hres
              have g7 : (q.2.length : Int) ≤ v.length + (q.1 - (b + 1)) := by rw [g3, List.length_append]; omega
              refine j_aload_n rfl rfl ?_
              refine j_iload_n rfl rfl ?_
              refine j_iconst rfl ?_
              refine j_callV (ci := 12) rfl okX12_lay c_X12_229 (ct_X12_lay (hFc.st hS) (by omega) (by rw [hPb.2.2.2.1]; omega) (by rw [hPb.2.2.2.1]; omega)) rfl rfl ((hFc.st hS).lt (by decide)) ((hFc.st hS).k (by decide) (by decide)) (by decide) rfl (Nat.le_of_ble_eq_true rfl) (RB.call hRB (by omega) (by decide)) ⟨Nat.le_refl _, Nat.le_refl _⟩ ?_
              rintro vq mq ⟨e1, e2⟩
              rw [e1, e2]
              clear e1 e2
              simp only [Option.toList_some, Option.toList_none, List.nil_append]
              have hP29 := layM_ps (what := chR m b) (v := 0) hPb (by omega) (by omega) (by omega)
              have hF28 := layM_fp (what := chR m b) (v := 0) hFc (by rw [hPb.2.2.2.1]; omega)
              have hI30 := layM_im (what := chR m b) (v := 0) hIb (by omega) (by omega)
              generalize layM N2 (chR m b) 0 = N27 at hP29 hF28 hI30 ⊢
              refine j_goto (tgt := 4) rfl (by decide) ?_
              refine j_loc (ls' := [(0, vR 86)]) rfl ?_
              rw [show opM (chR m b) = opP (chR m b) from by first | exact hopm | (rw [← hopm]; congr 1; omega)] at hP29
              exact ih q.1 (q.2 ++ [(opP (chR m b), 0)]) N27 hF28 hI30 hP29 (by omega) g2 (by rw [List.length_append]; show ((q.2.length + 1 : Nat) : Int) ≤ _; omega) (by omega) hR

set_option maxRecDepth 20000 in
theorem ct_X12_product {G : QW} {o : Int} {d : Nat} {f : (Int → Int) → PSt → PRes} (hd1 : 1 ≤ d) (hf : CtP G mX12_operand d o f) (hgf : ∀ (c : Int → Int) (N : Int), (∀ x, N ≤ x → c x < 0) → pGood c N (f c)) : CtP G mX12_product (d + 1) o (fun c => pLev c opP (f c)) := by
  intro m a w hS hI0 h ha0 ha1 hl
  refine qM.intro okX12_product (Nat.le_of_ble_eq_true rfl) ?_
  have hRB := RBn (d + 1)
  have hg := hgf (chR m) (mi m 86 16) (chR_end m)
  have htp := hI0.s 86 16 0 160 (by decide)
  have h20 : mi m 86 20 = w.length := h.2.2.2.1
  refine j_aload_n rfl rfl ?_
  refine j_callV (ci := 12) rfl okX12_operand c_X12_240 (hf m a w hS hI0 h ha0 ha1 hl) rfl rfl (((FP.rf m).st hS).lt (by decide)) (((FP.rf m).st hS).k (by decide) (by decide)) (by decide) rfl (Nat.le_of_ble_eq_true rfl) (RB.call hRB (by omega) (by decide)) ⟨Nat.le_refl _, Nat.le_refl _⟩ ?_
  rintro vq N2 ⟨e1, hR⟩
  rw [e1]
  clear e1
  simp only [Option.toList_some, Option.toList_none, List.nil_append]
  cases hres : f (chR m) (a, w) with
  | error p =>
    rw [hres] at hR
    obtain ⟨hFb, hIb, hX⟩ := hR
    have hX : PX N2 a w.length p := hX
    have x1 := hX.1
    have x2 := hX.2.1
    refine j_aload_n rfl rfl ?_
    refine j_getI rfl f_X12_213 rfl ((hFb.st hS).lt (by decide)) ((hFb.st hS).k (by decide) (by decide)) ?_
    have u5_1 := mi_rng N2 86 18
    refine j_if_ge (tgt := 66) rfl (by decide) (by omega) (by omega) (fun hb8_1 => ?_) (fun hb8_1 => ?_)
    · skip
      refine j_vret rfl rfl ?_ rfl (Nat.le_refl _)
      refine ⟨rfl, ?_⟩
      show PR m N2 a o w (pLev (chR m) opP (f (chR m)) (a, w))
      unfold pLev
      rw [hres]
      exact ⟨hFb, hIb, hX⟩
    · skip
      exfalso; omega
  | ok q =>
    rw [hres] at hR
    obtain ⟨hFb, hIb, hPb⟩ := hR
    have hPb : PS N2 q.1 o q.2 := hPb
    obtain ⟨g1, g2, w2, g3, g4, g5, -⟩ := (hg a w ha0 ha1).1 q hres
    have g7 : (q.2.length : Int) ≤ w.length + (q.1 - a) := by rw [g3, List.length_append]; omega
    refine lp_X12_product_4 hf hg hS hI0 ha0 hl hd1 200 q.1 q.2 N2 hFb hIb hPb g1 g2 g7 (by omega) ?_
    show pLoop (chR m) opP (f (chR m)) 200 (q.1, q.2) = pLev (chR m) opP (f (chR m)) (a, w)
    unfold pLev
    rw [hres]
    rfl

set_option maxRecDepth 20000 in
set_option maxHeartbeats 4000000 in
theorem lp_X12_sum_4 {G : QW} {m : AM} {a o : Int} {w : List (Nat × Int)} {d : Nat} {f : (Int → Int) → PSt → PRes} {R : PRes} (hf : CtP G mX12_product d o f) (hg : pGood (chR m) (mi m 86 16) (f (chR m))) (hS : St m) (hI0 : IM m) (ha0 : 0 ≤ a) (hl : (w.length : Int) ≤ a) (hd1 : 1 ≤ d) : ∀ (x : Nat) (b : Int) (v : List (Nat × Int)) (N : AM), FP m N → IM N → PS N b o v → a < b → b ≤ mi m 86 16 → (v.length : Int) ≤ w.length + (b - a) → mi m 86 16 - b < x → pLoop (chR m) opS (f (chR m)) x (b, v) = R → qJ G mX12_sum { frames := d + 1, cells := 0, slots := 0, locals := 60 * (d + 1) } (qF G (fun r m' => r = none ∧ PR m m' a o w R) 0 0) 4 [(0, vR 86)] [] N 0 0 := by
  have htp := hI0.s 86 16 0 160 (by decide)
  have hRB := RBn (d + 1)
  intro x
  induction x with
  | zero => intro b v N _ _ _ _ h1 _ h2 _; exact absurd h2 (by omega)
  | succ x ih =>
    intro b v N hF hI hP hb0 hb1 hlv hx hR
    have h18 := hP.2.1
    simp only [pLoop] at hR
    refine j_aload_n rfl rfl ?_
    refine j_getI rfl f_X12_213 rfl ((hF.st hS).lt (by decide)) ((hF.st hS).k (by decide) (by decide)) ?_
    have u5_1 := mi_rng N 86 18
    refine j_if_ge (tgt := 57) rfl (by decide) (by omega) (by omega) (fun hb8_1 => ?_) (fun hb8_1 => ?_)
    · skip
      exfalso; omega
    · skip
      refine j_aload_n rfl rfl ?_
      refine j_callV (ci := 12) rfl okX12_look c_X12_225 (ct_X12_look (hF.st hS) hI (by rw [hP.1]; omega) (by rw [hP.1]; omega)) rfl rfl ((hF.st hS).lt (by decide)) ((hF.st hS).k (by decide) (by decide)) (by decide) rfl (Nat.le_of_ble_eq_true rfl) (RB.call hRB (by omega) (by decide)) ⟨Nat.le_refl _, Nat.le_refl _⟩ ?_
      rintro vq mq ⟨e1, e2⟩
      rw [hF.ch, hP.1] at e1
      rw [e1, e2]
      clear e1 e2
      simp only [Option.toList_some, Option.toList_none, List.cons_append, List.nil_append]
      have cr1 := chR_rng hI0 b
      refine j_bipush rfl (by decide) ?_
      refine j_icmp_eq (tgt := 29) rfl (by decide) (by omega) (by omega) (by omega) (by omega) (fun hb17_1 => ?_) (fun hb17_1 => ?_)
      · skip
        refine j_aload_n rfl rfl ?_
        refine j_callV (ci := 12) rfl okX12_look c_X12_225 (ct_X12_look (hF.st hS) hI (by rw [hP.1]; omega) (by rw [hP.1]; omega)) rfl rfl ((hF.st hS).lt (by decide)) ((hF.st hS).k (by decide) (by decide)) (by decide) rfl (Nat.le_of_ble_eq_true rfl) (RB.call hRB (by omega) (by decide)) ⟨Nat.le_refl _, Nat.le_refl _⟩ ?_
        rintro vq mq ⟨e1, e2⟩
        rw [hF.ch, hP.1] at e1
        rw [e1, e2]
        clear e1 e2
        simp only [Option.toList_some, Option.toList_none, List.cons_append, List.nil_append]
        have cr2 := chR_rng hI0 b
        refine j_istore_n rfl (by decide) ?_
        refine j_aload_n rfl rfl ?_
        refine j_dup rfl (Nat.ne_of_beq_eq_false rfl) ?_
        refine j_getI rfl f_X12_210 rfl ((hF.st hS).lt (by decide)) ((hF.st hS).k (by decide) (by decide)) ?_
        have u36_1 := mi_rng N 86 17
        refine j_iconst rfl ?_
        refine j_iadd rfl ?_
        refine j_putI rfl f_X12_210 rfl ((hF.st hS).lt (by decide)) ((hF.st hS).k (by decide) (by decide)) ?_
        have hlt := lt_end (chR_end m) (a := b) (by omega)
        rw [hP.1]
        have hP5 := hP.adv (b := (b + 1)) (by omega) (by omega)
        have hF4 := hF.one (o := 86) (k := 17) (Or.inr (by omega)) (b + 1)
        have hI6 := hI.read (k := 17) (by omega) (b + 1)
        generalize si N 86 17 (b + 1) = N3 at hP5 hF4 hI6 ⊢
        refine j_aload_n rfl rfl ?_
        refine j_callV (ci := 12) rfl okX12_product c_X12_249 (hf N3 (b + 1) v (hF4.st hS) hI6 hP5 (by omega) (by rw [show mi N3 86 16 = mi m 86 16 from hF4.cell (by decide) (by decide)]; omega) (by omega)) rfl rfl ((hF4.st hS).lt (by decide)) ((hF4.st hS).k (by decide) (by decide)) (by decide) rfl (Nat.le_of_ble_eq_true rfl) (RB.call hRB (by omega) (by decide)) ⟨Nat.le_refl _, Nat.le_refl _⟩ ?_
        rintro vq N2 ⟨e1, hR2⟩
        rw [e1]
        clear e1
        simp only [Option.toList_some, Option.toList_none, List.nil_append]
        rw [hF4.ch] at hR2
        have hne : ¬ opS (chR m b) = 0 := by intro q; unfold opS at q; (repeat' split at q) <;> omega
        rw [if_neg hne] at hR
        have hopm : opM (chR m b) = opS (chR m b) := opM_S (by omega)
        cases hres : f (chR m) (b + 1, v) with
        | error p =>
          rw [hres] at hR2 hR
          obtain ⟨hFb, hIb, hX⟩ := hR2
          have hX : PX N2 (b + 1) v.length p := hX
          have hFc := hF4.trans hFb
          have hX0 := hX
          obtain ⟨x1, x2, x3, x4, x5, x6⟩ := hX0
          have ecN : mi N2 86 16 = mi m 86 16 := hFc.cell (by decide) (by decide)
          refine j_aload_n rfl rfl ?_
          refine j_iload_n rfl rfl ?_
          refine j_iconst rfl ?_
          refine j_callV (ci := 12) rfl okX12_lay c_X12_229 (ct_X12_lay (hFc.st hS) (by omega) (by omega) (by omega)) rfl rfl ((hFc.st hS).lt (by decide)) ((hFc.st hS).k (by decide) (by decide)) (by decide) rfl (Nat.le_of_ble_eq_true rfl) (RB.call hRB (by omega) (by decide)) ⟨Nat.le_refl _, Nat.le_refl _⟩ ?_
          rintro vq mq ⟨e1, e2⟩
          rw [e1, e2]
          clear e1 e2
          simp only [Option.toList_some, Option.toList_none, List.nil_append]
          have hXl : PX (layM N2 (chR m b) 0) a w.length p := layM_px hX (chR m b) 0 (by omega) (by omega) (by omega)
          have hFl : FP m (layM N2 (chR m b) 0) := layM_fp hFc (by omega)
          have hIl : IM (layM N2 (chR m b) 0) := layM_im hIb (by omega) (by decide)
          have h18 := hXl.1
          refine j_goto (tgt := 4) rfl (by decide) ?_
          refine j_aload_n rfl rfl ?_
          refine j_getI rfl f_X12_213 rfl ((hFl.st hS).lt (by decide)) ((hFl.st hS).k (by decide) (by decide)) ?_
          have u5_2 := mi_rng (layM N2 (chR m b) 0) 86 18
          refine j_if_ge (tgt := 57) rfl (by decide) (by omega) (by omega) (fun hb8_2 => ?_) (fun hb8_2 => ?_)
          · skip
            refine j_vret rfl rfl ?_ rfl (Nat.le_refl _)
            have hR : (Except.error p : PRes) = R := hR
            subst hR
            exact ⟨rfl, hFl, hIl, hXl⟩
          · skip
            exfalso; omega
        | ok q =>
          rw [hres] at hR2 hR
          obtain ⟨hFb, hIb, hPb⟩ := hR2
          have hPb : PS N2 q.1 o q.2 := hPb
          have hFc := hF4.trans hFb
          obtain ⟨g1, g2, w2, g3, g4, g5, -⟩ := (hg (b + 1) v (by omega) (by omega)).1 q hres
          have g7 : (q.2.length : Int) ≤ v.length + (q.1 - (b + 1)) := by rw [g3, List.length_append]; omega
          refine j_aload_n rfl rfl ?_
          refine j_iload_n rfl rfl ?_
          refine j_iconst rfl ?_
          refine j_callV (ci := 12) rfl okX12_lay c_X12_229 (ct_X12_lay (hFc.st hS) (by omega) (by rw [hPb.2.2.2.1]; omega) (by rw [hPb.2.2.2.1]; omega)) rfl rfl ((hFc.st hS).lt (by decide)) ((hFc.st hS).k (by decide) (by decide)) (by decide) rfl (Nat.le_of_ble_eq_true rfl) (RB.call hRB (by omega) (by decide)) ⟨Nat.le_refl _, Nat.le_refl _⟩ ?_
          rintro vq mq ⟨e1, e2⟩
          rw [e1, e2]
          clear e1 e2
          simp only [Option.toList_some, Option.toList_none, List.nil_append]
          have hP9 := layM_ps (what := chR m b) (v := 0) hPb (by omega) (by omega) (by omega)
          have hF8 := layM_fp (what := chR m b) (v := 0) hFc (by rw [hPb.2.2.2.1]; omega)
          have hI10 := layM_im (what := chR m b) (v := 0) hIb (by omega) (by omega)
          generalize layM N2 (chR m b) 0 = N7 at hP9 hF8 hI10 ⊢
          refine j_goto (tgt := 4) rfl (by decide) ?_
          refine j_loc (ls' := [(0, vR 86)]) rfl ?_
          rw [show opM (chR m b) = opS (chR m b) from by first | exact hopm | (rw [← hopm]; congr 1; omega)] at hP9
          exact ih q.1 (q.2 ++ [(opS (chR m b), 0)]) N7 hF8 hI10 hP9 (by omega) g2 (by rw [List.length_append]; show ((q.2.length + 1 : Nat) : Int) ≤ _; omega) (by omega) hR
      · skip
        refine j_aload_n rfl rfl ?_
        refine j_callV (ci := 12) rfl okX12_look c_X12_225 (ct_X12_look (hF.st hS) hI (by rw [hP.1]; omega) (by rw [hP.1]; omega)) rfl rfl ((hF.st hS).lt (by decide)) ((hF.st hS).k (by decide) (by decide)) (by decide) rfl (Nat.le_of_ble_eq_true rfl) (RB.call hRB (by omega) (by decide)) ⟨Nat.le_refl _, Nat.le_refl _⟩ ?_
        rintro vq mq ⟨e1, e2⟩
        rw [hF.ch, hP.1] at e1
        rw [e1, e2]
        clear e1 e2
        simp only [Option.toList_some, Option.toList_none, List.cons_append, List.nil_append]
        have cr11 := chR_rng hI0 b
        refine j_bipush rfl (by decide) ?_
        refine j_icmp_ne (tgt := 57) rfl (by decide) (by omega) (by omega) (by omega) (by omega) (fun hb26_1 => ?_) (fun hb26_1 => ?_)
        · skip
          refine j_vret rfl rfl ?_ rfl (Nat.le_refl _)
          have h0 : opS (chR m b) = 0 := opS_0 (by omega)
          rw [if_pos h0] at hR
          subst hR
          exact ⟨rfl, hF, hI, hP⟩
        · skip
          refine j_aload_n rfl rfl ?_
          refine j_callV (ci := 12) rfl okX12_look c_X12_225 (ct_X12_look (hF.st hS) hI (by rw [hP.1]; omega) (by rw [hP.1]; omega)) rfl rfl ((hF.st hS).lt (by decide)) ((hF.st hS).k (by decide) (by decide)) (by decide) rfl (Nat.le_of_ble_eq_true rfl) (RB.call hRB (by omega) (by decide)) ⟨Nat.le_refl _, Nat.le_refl _⟩ ?_
          rintro vq mq ⟨e1, e2⟩
          rw [hF.ch, hP.1] at e1
          rw [e1, e2]
          clear e1 e2
          simp only [Option.toList_some, Option.toList_none, List.cons_append, List.nil_append]
          have cr12 := chR_rng hI0 b
          refine j_istore_n rfl (by decide) ?_
          refine j_aload_n rfl rfl ?_
          refine j_dup rfl (Nat.ne_of_beq_eq_false rfl) ?_
          refine j_getI rfl f_X12_210 rfl ((hF.st hS).lt (by decide)) ((hF.st hS).k (by decide) (by decide)) ?_
          have u36_2 := mi_rng N 86 17
          refine j_iconst rfl ?_
          refine j_iadd rfl ?_
          refine j_putI rfl f_X12_210 rfl ((hF.st hS).lt (by decide)) ((hF.st hS).k (by decide) (by decide)) ?_
          have hlt := lt_end (chR_end m) (a := b) (by omega)
          rw [hP.1]
          have hP15 := hP.adv (b := (b + 1)) (by omega) (by omega)
          have hF14 := hF.one (o := 86) (k := 17) (Or.inr (by omega)) (b + 1)
          have hI16 := hI.read (k := 17) (by omega) (b + 1)
          generalize si N 86 17 (b + 1) = N13 at hP15 hF14 hI16 ⊢
          refine j_aload_n rfl rfl ?_
          refine j_callV (ci := 12) rfl okX12_product c_X12_249 (hf N13 (b + 1) v (hF14.st hS) hI16 hP15 (by omega) (by rw [show mi N13 86 16 = mi m 86 16 from hF14.cell (by decide) (by decide)]; omega) (by omega)) rfl rfl ((hF14.st hS).lt (by decide)) ((hF14.st hS).k (by decide) (by decide)) (by decide) rfl (Nat.le_of_ble_eq_true rfl) (RB.call hRB (by omega) (by decide)) ⟨Nat.le_refl _, Nat.le_refl _⟩ ?_
          rintro vq N2 ⟨e1, hR2⟩
          rw [e1]
          clear e1
          simp only [Option.toList_some, Option.toList_none, List.nil_append]
          rw [hF14.ch] at hR2
          have hne : ¬ opS (chR m b) = 0 := by intro q; unfold opS at q; (repeat' split at q) <;> omega
          rw [if_neg hne] at hR
          have hopm : opM (chR m b) = opS (chR m b) := opM_S (by omega)
          cases hres : f (chR m) (b + 1, v) with
          | error p =>
            rw [hres] at hR2 hR
            obtain ⟨hFb, hIb, hX⟩ := hR2
            have hX : PX N2 (b + 1) v.length p := hX
            have hFc := hF14.trans hFb
            have hX0 := hX
            obtain ⟨x1, x2, x3, x4, x5, x6⟩ := hX0
            have ecN : mi N2 86 16 = mi m 86 16 := hFc.cell (by decide) (by decide)
            refine j_aload_n rfl rfl ?_
            refine j_iload_n rfl rfl ?_
            refine j_iconst rfl ?_
            refine j_callV (ci := 12) rfl okX12_lay c_X12_229 (ct_X12_lay (hFc.st hS) (by omega) (by omega) (by omega)) rfl rfl ((hFc.st hS).lt (by decide)) ((hFc.st hS).k (by decide) (by decide)) (by decide) rfl (Nat.le_of_ble_eq_true rfl) (RB.call hRB (by omega) (by decide)) ⟨Nat.le_refl _, Nat.le_refl _⟩ ?_
            rintro vq mq ⟨e1, e2⟩
            rw [e1, e2]
            clear e1 e2
            simp only [Option.toList_some, Option.toList_none, List.nil_append]
            have hXl : PX (layM N2 (chR m b) 0) a w.length p := layM_px hX (chR m b) 0 (by omega) (by omega) (by omega)
            have hFl : FP m (layM N2 (chR m b) 0) := layM_fp hFc (by omega)
            have hIl : IM (layM N2 (chR m b) 0) := layM_im hIb (by omega) (by decide)
            have h18 := hXl.1
            refine j_goto (tgt := 4) rfl (by decide) ?_
            refine j_aload_n rfl rfl ?_
            refine j_getI rfl f_X12_213 rfl ((hFl.st hS).lt (by decide)) ((hFl.st hS).k (by decide) (by decide)) ?_
            have u5_3 := mi_rng (layM N2 (chR m b) 0) 86 18
            refine j_if_ge (tgt := 57) rfl (by decide) (by omega) (by omega) (fun hb8_3 => ?_) (fun hb8_3 => ?_)
            · skip
              refine j_vret rfl rfl ?_ rfl (Nat.le_refl _)
              have hR : (Except.error p : PRes) = R := hR
              subst hR
              exact ⟨rfl, hFl, hIl, hXl⟩
            · skip
              exfalso; omega
          | ok q =>
            rw [hres] at hR2 hR
            obtain ⟨hFb, hIb, hPb⟩ := hR2
            have hPb : PS N2 q.1 o q.2 := hPb
            have hFc := hF14.trans hFb
            obtain ⟨g1, g2, w2, g3, g4, g5, -⟩ := (hg (b + 1) v (by omega) (by omega)).1 q hres
            have g7 : (q.2.length : Int) ≤ v.length + (q.1 - (b + 1)) := by rw [g3, List.length_append]; omega
            refine j_aload_n rfl rfl ?_
            refine j_iload_n rfl rfl ?_
            refine j_iconst rfl ?_
            refine j_callV (ci := 12) rfl okX12_lay c_X12_229 (ct_X12_lay (hFc.st hS) (by omega) (by rw [hPb.2.2.2.1]; omega) (by rw [hPb.2.2.2.1]; omega)) rfl rfl ((hFc.st hS).lt (by decide)) ((hFc.st hS).k (by decide) (by decide)) (by decide) rfl (Nat.le_of_ble_eq_true rfl) (RB.call hRB (by omega) (by decide)) ⟨Nat.le_refl _, Nat.le_refl _⟩ ?_
            rintro vq mq ⟨e1, e2⟩
            rw [e1, e2]
            clear e1 e2
            simp only [Option.toList_some, Option.toList_none, List.nil_append]
            have hP19 := layM_ps (what := chR m b) (v := 0) hPb (by omega) (by omega) (by omega)
            have hF18 := layM_fp (what := chR m b) (v := 0) hFc (by rw [hPb.2.2.2.1]; omega)
            have hI20 := layM_im (what := chR m b) (v := 0) hIb (by omega) (by omega)
            generalize layM N2 (chR m b) 0 = N17 at hP19 hF18 hI20 ⊢
            refine j_goto (tgt := 4) rfl (by decide) ?_
            refine j_loc (ls' := [(0, vR 86)]) rfl ?_
            rw [show opM (chR m b) = opS (chR m b) from by first | exact hopm | (rw [← hopm]; congr 1; omega)] at hP19
            exact ih q.1 (q.2 ++ [(opS (chR m b), 0)]) N17 hF18 hI20 hP19 (by omega) g2 (by rw [List.length_append]; show ((q.2.length + 1 : Nat) : Int) ≤ _; omega) (by omega) hR

set_option maxRecDepth 20000 in
theorem ct_X12_sum {G : QW} {o : Int} {d : Nat} {f : (Int → Int) → PSt → PRes} (hd1 : 1 ≤ d) (hf : CtP G mX12_product d o f) (hgf : ∀ (c : Int → Int) (N : Int), (∀ x, N ≤ x → c x < 0) → pGood c N (f c)) : CtP G mX12_sum (d + 1) o (fun c => pLev c opS (f c)) := by
  intro m a w hS hI0 h ha0 ha1 hl
  refine qM.intro okX12_sum (Nat.le_of_ble_eq_true rfl) ?_
  have hRB := RBn (d + 1)
  have hg := hgf (chR m) (mi m 86 16) (chR_end m)
  have htp := hI0.s 86 16 0 160 (by decide)
  have h20 : mi m 86 20 = w.length := h.2.2.2.1
  refine j_aload_n rfl rfl ?_
  refine j_callV (ci := 12) rfl okX12_product c_X12_249 (hf m a w hS hI0 h ha0 ha1 hl) rfl rfl (((FP.rf m).st hS).lt (by decide)) (((FP.rf m).st hS).k (by decide) (by decide)) (by decide) rfl (Nat.le_of_ble_eq_true rfl) (RB.call hRB (by omega) (by decide)) ⟨Nat.le_refl _, Nat.le_refl _⟩ ?_
  rintro vq N2 ⟨e1, hR⟩
  rw [e1]
  clear e1
  simp only [Option.toList_some, Option.toList_none, List.nil_append]
  cases hres : f (chR m) (a, w) with
  | error p =>
    rw [hres] at hR
    obtain ⟨hFb, hIb, hX⟩ := hR
    have hX : PX N2 a w.length p := hX
    have x1 := hX.1
    have x2 := hX.2.1
    refine j_aload_n rfl rfl ?_
    refine j_getI rfl f_X12_213 rfl ((hFb.st hS).lt (by decide)) ((hFb.st hS).k (by decide) (by decide)) ?_
    have u5_1 := mi_rng N2 86 18
    refine j_if_ge (tgt := 57) rfl (by decide) (by omega) (by omega) (fun hb8_1 => ?_) (fun hb8_1 => ?_)
    · skip
      refine j_vret rfl rfl ?_ rfl (Nat.le_refl _)
      refine ⟨rfl, ?_⟩
      show PR m N2 a o w (pLev (chR m) opS (f (chR m)) (a, w))
      unfold pLev
      rw [hres]
      exact ⟨hFb, hIb, hX⟩
    · skip
      exfalso; omega
  | ok q =>
    rw [hres] at hR
    obtain ⟨hFb, hIb, hPb⟩ := hR
    have hPb : PS N2 q.1 o q.2 := hPb
    obtain ⟨g1, g2, w2, g3, g4, g5, -⟩ := (hg a w ha0 ha1).1 q hres
    have g7 : (q.2.length : Int) ≤ w.length + (q.1 - a) := by rw [g3, List.length_append]; omega
    refine lp_X12_sum_4 hf hg hS hI0 ha0 hl hd1 200 q.1 q.2 N2 hFb hIb hPb g1 g2 g7 (by omega) ?_
    show pLoop (chR m) opS (f (chR m)) 200 (q.1, q.2) = pLev (chR m) opS (f (chR m)) (a, w)
    unfold pLev
    rw [hres]
    rfl

set_option maxRecDepth 20000 in
set_option maxHeartbeats 4000000 in
theorem lp_X12_both_4 {G : QW} {m : AM} {a o : Int} {w : List (Nat × Int)} {d : Nat} {f : (Int → Int) → PSt → PRes} {R : PRes} (hf : CtP G mX12_compared d o f) (hg : pGood (chR m) (mi m 86 16) (f (chR m))) (hS : St m) (hI0 : IM m) (ha0 : 0 ≤ a) (hl : (w.length : Int) ≤ a) (hd1 : 1 ≤ d) : ∀ (x : Nat) (b : Int) (v : List (Nat × Int)) (N : AM), FP m N → IM N → PS N b o v → a < b → b ≤ mi m 86 16 → (v.length : Int) ≤ w.length + (b - a) → mi m 86 16 - b < x → pLoop (chR m) opA (f (chR m)) x (b, v) = R → qJ G mX12_both { frames := d + 1, cells := 0, slots := 0, locals := 60 * (d + 1) } (qF G (fun r m' => r = none ∧ PR m m' a o w R) 0 0) 4 [(0, vR 86)] [] N 0 0 := by
  have htp := hI0.s 86 16 0 160 (by decide)
  have hRB := RBn (d + 1)
  intro x
  induction x with
  | zero => intro b v N _ _ _ _ h1 _ h2 _; exact absurd h2 (by omega)
  | succ x ih =>
    intro b v N hF hI hP hb0 hb1 hlv hx hR
    have h18 := hP.2.1
    simp only [pLoop] at hR
    refine j_aload_n rfl rfl ?_
    refine j_getI rfl f_X12_213 rfl ((hF.st hS).lt (by decide)) ((hF.st hS).k (by decide) (by decide)) ?_
    have u5_1 := mi_rng N 86 18
    refine j_if_ge (tgt := 44) rfl (by decide) (by omega) (by omega) (fun hb8_1 => ?_) (fun hb8_1 => ?_)
    · skip
      exfalso; omega
    · skip
      refine j_aload_n rfl rfl ?_
      refine j_callV (ci := 12) rfl okX12_look c_X12_225 (ct_X12_look (hF.st hS) hI (by rw [hP.1]; omega) (by rw [hP.1]; omega)) rfl rfl ((hF.st hS).lt (by decide)) ((hF.st hS).k (by decide) (by decide)) (by decide) rfl (Nat.le_of_ble_eq_true rfl) (RB.call hRB (by omega) (by decide)) ⟨Nat.le_refl _, Nat.le_refl _⟩ ?_
      rintro vq mq ⟨e1, e2⟩
      rw [hF.ch, hP.1] at e1
      rw [e1, e2]
      clear e1 e2
      simp only [Option.toList_some, Option.toList_none, List.cons_append, List.nil_append]
      have cr1 := chR_rng hI0 b
      refine j_bipush rfl (by decide) ?_
      refine j_icmp_ne (tgt := 44) rfl (by decide) (by omega) (by omega) (by omega) (by omega) (fun hb17_1 => ?_) (fun hb17_1 => ?_)
      · skip
        refine j_vret rfl rfl ?_ rfl (Nat.le_refl _)
        have h0 : opA (chR m b) = 0 := opA_0 (by omega)
        rw [if_pos h0] at hR
        subst hR
        exact ⟨rfl, hF, hI, hP⟩
      · skip
        refine j_aload_n rfl rfl ?_
        refine j_dup rfl (Nat.ne_of_beq_eq_false rfl) ?_
        refine j_getI rfl f_X12_210 rfl ((hF.st hS).lt (by decide)) ((hF.st hS).k (by decide) (by decide)) ?_
        have u22_1 := mi_rng N 86 17
        refine j_iconst rfl ?_
        refine j_iadd rfl ?_
        refine j_putI rfl f_X12_210 rfl ((hF.st hS).lt (by decide)) ((hF.st hS).k (by decide) (by decide)) ?_
        have hlt := lt_end (chR_end m) (a := b) (by omega)
        rw [hP.1]
        have hP4 := hP.adv (b := (b + 1)) (by omega) (by omega)
        have hF3 := hF.one (o := 86) (k := 17) (Or.inr (by omega)) (b + 1)
        have hI5 := hI.read (k := 17) (by omega) (b + 1)
        generalize si N 86 17 (b + 1) = N2 at hP4 hF3 hI5 ⊢
        refine j_aload_n rfl rfl ?_
        refine j_callV (ci := 12) rfl okX12_compared c_X12_255 (hf N2 (b + 1) v (hF3.st hS) hI5 hP4 (by omega) (by rw [show mi N2 86 16 = mi m 86 16 from hF3.cell (by decide) (by decide)]; omega) (by omega)) rfl rfl ((hF3.st hS).lt (by decide)) ((hF3.st hS).k (by decide) (by decide)) (by decide) rfl (Nat.le_of_ble_eq_true rfl) (RB.call hRB (by omega) (by decide)) ⟨Nat.le_refl _, Nat.le_refl _⟩ ?_
        rintro vq N2 ⟨e1, hR2⟩
        rw [e1]
        clear e1
        simp only [Option.toList_some, Option.toList_none, List.nil_append]
        rw [hF3.ch] at hR2
        have hne : ¬ opA (chR m b) = 0 := by intro q; unfold opA at q; (repeat' split at q) <;> omega
        rw [if_neg hne] at hR
        have hopm : opM (chR m b) = opA (chR m b) := opM_A (by omega)
        cases hres : f (chR m) (b + 1, v) with
        | error p =>
          rw [hres] at hR2 hR
          obtain ⟨hFb, hIb, hX⟩ := hR2
          have hX : PX N2 (b + 1) v.length p := hX
          have hFc := hF3.trans hFb
          have hX0 := hX
          obtain ⟨x1, x2, x3, x4, x5, x6⟩ := hX0
          have ecN : mi N2 86 16 = mi m 86 16 := hFc.cell (by decide) (by decide)
          refine j_aload_n rfl rfl ?_
          refine j_bipush rfl (by decide) ?_
          refine j_iconst rfl ?_
          refine j_callV (ci := 12) rfl okX12_lay c_X12_229 (ct_X12_lay (hFc.st hS) (by omega) (by omega) (by omega)) rfl rfl ((hFc.st hS).lt (by decide)) ((hFc.st hS).k (by decide) (by decide)) (by decide) rfl (Nat.le_of_ble_eq_true rfl) (RB.call hRB (by omega) (by decide)) ⟨Nat.le_refl _, Nat.le_refl _⟩ ?_
          rintro vq mq ⟨e1, e2⟩
          rw [e1, e2]
          clear e1 e2
          simp only [Option.toList_some, Option.toList_none, List.nil_append]
          have hXl : PX (layM N2 38 0) a w.length p := layM_px hX 38 0 (by omega) (by omega) (by omega)
          have hFl : FP m (layM N2 38 0) := layM_fp hFc (by omega)
          have hIl : IM (layM N2 38 0) := layM_im hIb (by omega) (by decide)
          have h18 := hXl.1
          refine j_goto (tgt := 4) rfl (by decide) ?_
          refine j_aload_n rfl rfl ?_
          refine j_getI rfl f_X12_213 rfl ((hFl.st hS).lt (by decide)) ((hFl.st hS).k (by decide) (by decide)) ?_
          have u5_2 := mi_rng (layM N2 38 0) 86 18
          refine j_if_ge (tgt := 44) rfl (by decide) (by omega) (by omega) (fun hb8_2 => ?_) (fun hb8_2 => ?_)
          · skip
            refine j_vret rfl rfl ?_ rfl (Nat.le_refl _)
            have hR : (Except.error p : PRes) = R := hR
            subst hR
            exact ⟨rfl, hFl, hIl, hXl⟩
          · skip
            exfalso; omega
        | ok q =>
          rw [hres] at hR2 hR
          obtain ⟨hFb, hIb, hPb⟩ := hR2
          have hPb : PS N2 q.1 o q.2 := hPb
          have hFc := hF3.trans hFb
          obtain ⟨g1, g2, w2, g3, g4, g5, -⟩ := (hg (b + 1) v (by omega) (by omega)).1 q hres
          have g7 : (q.2.length : Int) ≤ v.length + (q.1 - (b + 1)) := by rw [g3, List.length_append]; omega
          refine j_aload_n rfl rfl ?_
          refine j_bipush rfl (by decide) ?_
          refine j_iconst rfl ?_
          refine j_callV (ci := 12) rfl okX12_lay c_X12_229 (ct_X12_lay (hFc.st hS) (by omega) (by rw [hPb.2.2.2.1]; omega) (by rw [hPb.2.2.2.1]; omega)) rfl rfl ((hFc.st hS).lt (by decide)) ((hFc.st hS).k (by decide) (by decide)) (by decide) rfl (Nat.le_of_ble_eq_true rfl) (RB.call hRB (by omega) (by decide)) ⟨Nat.le_refl _, Nat.le_refl _⟩ ?_
          rintro vq mq ⟨e1, e2⟩
          rw [e1, e2]
          clear e1 e2
          simp only [Option.toList_some, Option.toList_none, List.nil_append]
          have hP8 := layM_ps (what := 38) (v := 0) hPb (by omega) (by omega) (by omega)
          have hF7 := layM_fp (what := 38) (v := 0) hFc (by rw [hPb.2.2.2.1]; omega)
          have hI9 := layM_im (what := 38) (v := 0) hIb (by omega) (by omega)
          generalize layM N2 38 0 = N6 at hP8 hF7 hI9 ⊢
          refine j_goto (tgt := 4) rfl (by decide) ?_
          refine j_loc (ls' := [(0, vR 86)]) rfl ?_
          rw [show opM 38 = opA (chR m b) from by first | exact hopm | (rw [← hopm]; congr 1; omega)] at hP8
          exact ih q.1 (q.2 ++ [(opA (chR m b), 0)]) N6 hF7 hI9 hP8 (by omega) g2 (by rw [List.length_append]; show ((q.2.length + 1 : Nat) : Int) ≤ _; omega) (by omega) hR

set_option maxRecDepth 20000 in
theorem ct_X12_both {G : QW} {o : Int} {d : Nat} {f : (Int → Int) → PSt → PRes} (hd1 : 1 ≤ d) (hf : CtP G mX12_compared d o f) (hgf : ∀ (c : Int → Int) (N : Int), (∀ x, N ≤ x → c x < 0) → pGood c N (f c)) : CtP G mX12_both (d + 1) o (fun c => pLev c opA (f c)) := by
  intro m a w hS hI0 h ha0 ha1 hl
  refine qM.intro okX12_both (Nat.le_of_ble_eq_true rfl) ?_
  have hRB := RBn (d + 1)
  have hg := hgf (chR m) (mi m 86 16) (chR_end m)
  have htp := hI0.s 86 16 0 160 (by decide)
  have h20 : mi m 86 20 = w.length := h.2.2.2.1
  refine j_aload_n rfl rfl ?_
  refine j_callV (ci := 12) rfl okX12_compared c_X12_255 (hf m a w hS hI0 h ha0 ha1 hl) rfl rfl (((FP.rf m).st hS).lt (by decide)) (((FP.rf m).st hS).k (by decide) (by decide)) (by decide) rfl (Nat.le_of_ble_eq_true rfl) (RB.call hRB (by omega) (by decide)) ⟨Nat.le_refl _, Nat.le_refl _⟩ ?_
  rintro vq N2 ⟨e1, hR⟩
  rw [e1]
  clear e1
  simp only [Option.toList_some, Option.toList_none, List.nil_append]
  cases hres : f (chR m) (a, w) with
  | error p =>
    rw [hres] at hR
    obtain ⟨hFb, hIb, hX⟩ := hR
    have hX : PX N2 a w.length p := hX
    have x1 := hX.1
    have x2 := hX.2.1
    refine j_aload_n rfl rfl ?_
    refine j_getI rfl f_X12_213 rfl ((hFb.st hS).lt (by decide)) ((hFb.st hS).k (by decide) (by decide)) ?_
    have u5_1 := mi_rng N2 86 18
    refine j_if_ge (tgt := 44) rfl (by decide) (by omega) (by omega) (fun hb8_1 => ?_) (fun hb8_1 => ?_)
    · skip
      refine j_vret rfl rfl ?_ rfl (Nat.le_refl _)
      refine ⟨rfl, ?_⟩
      show PR m N2 a o w (pLev (chR m) opA (f (chR m)) (a, w))
      unfold pLev
      rw [hres]
      exact ⟨hFb, hIb, hX⟩
    · skip
      exfalso; omega
  | ok q =>
    rw [hres] at hR
    obtain ⟨hFb, hIb, hPb⟩ := hR
    have hPb : PS N2 q.1 o q.2 := hPb
    obtain ⟨g1, g2, w2, g3, g4, g5, -⟩ := (hg a w ha0 ha1).1 q hres
    have g7 : (q.2.length : Int) ≤ w.length + (q.1 - a) := by rw [g3, List.length_append]; omega
    refine lp_X12_both_4 hf hg hS hI0 ha0 hl hd1 200 q.1 q.2 N2 hFb hIb hPb g1 g2 g7 (by omega) ?_
    show pLoop (chR m) opA (f (chR m)) 200 (q.1, q.2) = pLev (chR m) opA (f (chR m)) (a, w)
    unfold pLev
    rw [hres]
    rfl

set_option maxRecDepth 20000 in
set_option maxHeartbeats 4000000 in
theorem lp_X12_either_4 {G : QW} {m : AM} {a o : Int} {w : List (Nat × Int)} {d : Nat} {f : (Int → Int) → PSt → PRes} {R : PRes} (hf : CtP G mX12_both d o f) (hg : pGood (chR m) (mi m 86 16) (f (chR m))) (hS : St m) (hI0 : IM m) (ha0 : 0 ≤ a) (hl : (w.length : Int) ≤ a) (hd1 : 1 ≤ d) : ∀ (x : Nat) (b : Int) (v : List (Nat × Int)) (N : AM), FP m N → IM N → PS N b o v → a < b → b ≤ mi m 86 16 → (v.length : Int) ≤ w.length + (b - a) → mi m 86 16 - b < x → pLoop (chR m) opO (f (chR m)) x (b, v) = R → qJ G mX12_either { frames := d + 1, cells := 0, slots := 0, locals := 60 * (d + 1) } (qF G (fun r m' => r = none ∧ PR m m' a o w R) 0 0) 4 [(0, vR 86)] [] N 0 0 := by
  have htp := hI0.s 86 16 0 160 (by decide)
  have hRB := RBn (d + 1)
  intro x
  induction x with
  | zero => intro b v N _ _ _ _ h1 _ h2 _; exact absurd h2 (by omega)
  | succ x ih =>
    intro b v N hF hI hP hb0 hb1 hlv hx hR
    have h18 := hP.2.1
    simp only [pLoop] at hR
    refine j_aload_n rfl rfl ?_
    refine j_getI rfl f_X12_213 rfl ((hF.st hS).lt (by decide)) ((hF.st hS).k (by decide) (by decide)) ?_
    have u5_1 := mi_rng N 86 18
    refine j_if_ge (tgt := 44) rfl (by decide) (by omega) (by omega) (fun hb8_1 => ?_) (fun hb8_1 => ?_)
    · skip
      exfalso; omega
    · skip
      refine j_aload_n rfl rfl ?_
      refine j_callV (ci := 12) rfl okX12_look c_X12_225 (ct_X12_look (hF.st hS) hI (by rw [hP.1]; omega) (by rw [hP.1]; omega)) rfl rfl ((hF.st hS).lt (by decide)) ((hF.st hS).k (by decide) (by decide)) (by decide) rfl (Nat.le_of_ble_eq_true rfl) (RB.call hRB (by omega) (by decide)) ⟨Nat.le_refl _, Nat.le_refl _⟩ ?_
      rintro vq mq ⟨e1, e2⟩
      rw [hF.ch, hP.1] at e1
      rw [e1, e2]
      clear e1 e2
      simp only [Option.toList_some, Option.toList_none, List.cons_append, List.nil_append]
      have cr1 := chR_rng hI0 b
      refine j_bipush rfl (by decide) ?_
      refine j_icmp_ne (tgt := 44) rfl (by decide) (by omega) (by omega) (by omega) (by omega) (fun hb17_1 => ?_) (fun hb17_1 => ?_)
      · skip
        refine j_vret rfl rfl ?_ rfl (Nat.le_refl _)
        have h0 : opO (chR m b) = 0 := opO_0 (by omega)
        rw [if_pos h0] at hR
        subst hR
        exact ⟨rfl, hF, hI, hP⟩
      · skip
        refine j_aload_n rfl rfl ?_
        refine j_dup rfl (Nat.ne_of_beq_eq_false rfl) ?_
        refine j_getI rfl f_X12_210 rfl ((hF.st hS).lt (by decide)) ((hF.st hS).k (by decide) (by decide)) ?_
        have u22_1 := mi_rng N 86 17
        refine j_iconst rfl ?_
        refine j_iadd rfl ?_
        refine j_putI rfl f_X12_210 rfl ((hF.st hS).lt (by decide)) ((hF.st hS).k (by decide) (by decide)) ?_
        have hlt := lt_end (chR_end m) (a := b) (by omega)
        rw [hP.1]
        have hP4 := hP.adv (b := (b + 1)) (by omega) (by omega)
        have hF3 := hF.one (o := 86) (k := 17) (Or.inr (by omega)) (b + 1)
        have hI5 := hI.read (k := 17) (by omega) (b + 1)
        generalize si N 86 17 (b + 1) = N2 at hP4 hF3 hI5 ⊢
        refine j_aload_n rfl rfl ?_
        refine j_callV (ci := 12) rfl okX12_both c_X12_258 (hf N2 (b + 1) v (hF3.st hS) hI5 hP4 (by omega) (by rw [show mi N2 86 16 = mi m 86 16 from hF3.cell (by decide) (by decide)]; omega) (by omega)) rfl rfl ((hF3.st hS).lt (by decide)) ((hF3.st hS).k (by decide) (by decide)) (by decide) rfl (Nat.le_of_ble_eq_true rfl) (RB.call hRB (by omega) (by decide)) ⟨Nat.le_refl _, Nat.le_refl _⟩ ?_
        rintro vq N2 ⟨e1, hR2⟩
        rw [e1]
        clear e1
        simp only [Option.toList_some, Option.toList_none, List.nil_append]
        rw [hF3.ch] at hR2
        have hne : ¬ opO (chR m b) = 0 := by intro q; unfold opO at q; (repeat' split at q) <;> omega
        rw [if_neg hne] at hR
        have hopm : opM (chR m b) = opO (chR m b) := opM_O (by omega)
        cases hres : f (chR m) (b + 1, v) with
        | error p =>
          rw [hres] at hR2 hR
          obtain ⟨hFb, hIb, hX⟩ := hR2
          have hX : PX N2 (b + 1) v.length p := hX
          have hFc := hF3.trans hFb
          have hX0 := hX
          obtain ⟨x1, x2, x3, x4, x5, x6⟩ := hX0
          have ecN : mi N2 86 16 = mi m 86 16 := hFc.cell (by decide) (by decide)
          refine j_aload_n rfl rfl ?_
          refine j_bipush rfl (by decide) ?_
          refine j_iconst rfl ?_
          refine j_callV (ci := 12) rfl okX12_lay c_X12_229 (ct_X12_lay (hFc.st hS) (by omega) (by omega) (by omega)) rfl rfl ((hFc.st hS).lt (by decide)) ((hFc.st hS).k (by decide) (by decide)) (by decide) rfl (Nat.le_of_ble_eq_true rfl) (RB.call hRB (by omega) (by decide)) ⟨Nat.le_refl _, Nat.le_refl _⟩ ?_
          rintro vq mq ⟨e1, e2⟩
          rw [e1, e2]
          clear e1 e2
          simp only [Option.toList_some, Option.toList_none, List.nil_append]
          have hXl : PX (layM N2 124 0) a w.length p := layM_px hX 124 0 (by omega) (by omega) (by omega)
          have hFl : FP m (layM N2 124 0) := layM_fp hFc (by omega)
          have hIl : IM (layM N2 124 0) := layM_im hIb (by omega) (by decide)
          have h18 := hXl.1
          refine j_goto (tgt := 4) rfl (by decide) ?_
          refine j_aload_n rfl rfl ?_
          refine j_getI rfl f_X12_213 rfl ((hFl.st hS).lt (by decide)) ((hFl.st hS).k (by decide) (by decide)) ?_
          have u5_2 := mi_rng (layM N2 124 0) 86 18
          refine j_if_ge (tgt := 44) rfl (by decide) (by omega) (by omega) (fun hb8_2 => ?_) (fun hb8_2 => ?_)
          · skip
            refine j_vret rfl rfl ?_ rfl (Nat.le_refl _)
            have hR : (Except.error p : PRes) = R := hR
            subst hR
            exact ⟨rfl, hFl, hIl, hXl⟩
          · skip
            exfalso; omega
        | ok q =>
          rw [hres] at hR2 hR
          obtain ⟨hFb, hIb, hPb⟩ := hR2
          have hPb : PS N2 q.1 o q.2 := hPb
          have hFc := hF3.trans hFb
          obtain ⟨g1, g2, w2, g3, g4, g5, -⟩ := (hg (b + 1) v (by omega) (by omega)).1 q hres
          have g7 : (q.2.length : Int) ≤ v.length + (q.1 - (b + 1)) := by rw [g3, List.length_append]; omega
          refine j_aload_n rfl rfl ?_
          refine j_bipush rfl (by decide) ?_
          refine j_iconst rfl ?_
          refine j_callV (ci := 12) rfl okX12_lay c_X12_229 (ct_X12_lay (hFc.st hS) (by omega) (by rw [hPb.2.2.2.1]; omega) (by rw [hPb.2.2.2.1]; omega)) rfl rfl ((hFc.st hS).lt (by decide)) ((hFc.st hS).k (by decide) (by decide)) (by decide) rfl (Nat.le_of_ble_eq_true rfl) (RB.call hRB (by omega) (by decide)) ⟨Nat.le_refl _, Nat.le_refl _⟩ ?_
          rintro vq mq ⟨e1, e2⟩
          rw [e1, e2]
          clear e1 e2
          simp only [Option.toList_some, Option.toList_none, List.nil_append]
          have hP8 := layM_ps (what := 124) (v := 0) hPb (by omega) (by omega) (by omega)
          have hF7 := layM_fp (what := 124) (v := 0) hFc (by rw [hPb.2.2.2.1]; omega)
          have hI9 := layM_im (what := 124) (v := 0) hIb (by omega) (by omega)
          generalize layM N2 124 0 = N6 at hP8 hF7 hI9 ⊢
          refine j_goto (tgt := 4) rfl (by decide) ?_
          refine j_loc (ls' := [(0, vR 86)]) rfl ?_
          rw [show opM 124 = opO (chR m b) from by first | exact hopm | (rw [← hopm]; congr 1; omega)] at hP8
          exact ih q.1 (q.2 ++ [(opO (chR m b), 0)]) N6 hF7 hI9 hP8 (by omega) g2 (by rw [List.length_append]; show ((q.2.length + 1 : Nat) : Int) ≤ _; omega) (by omega) hR

set_option maxRecDepth 20000 in
theorem ct_X12_either {G : QW} {o : Int} {d : Nat} {f : (Int → Int) → PSt → PRes} (hd1 : 1 ≤ d) (hf : CtP G mX12_both d o f) (hgf : ∀ (c : Int → Int) (N : Int), (∀ x, N ≤ x → c x < 0) → pGood c N (f c)) : CtP G mX12_either (d + 1) o (fun c => pLev c opO (f c)) := by
  intro m a w hS hI0 h ha0 ha1 hl
  refine qM.intro okX12_either (Nat.le_of_ble_eq_true rfl) ?_
  have hRB := RBn (d + 1)
  have hg := hgf (chR m) (mi m 86 16) (chR_end m)
  have htp := hI0.s 86 16 0 160 (by decide)
  have h20 : mi m 86 20 = w.length := h.2.2.2.1
  refine j_aload_n rfl rfl ?_
  refine j_callV (ci := 12) rfl okX12_both c_X12_258 (hf m a w hS hI0 h ha0 ha1 hl) rfl rfl (((FP.rf m).st hS).lt (by decide)) (((FP.rf m).st hS).k (by decide) (by decide)) (by decide) rfl (Nat.le_of_ble_eq_true rfl) (RB.call hRB (by omega) (by decide)) ⟨Nat.le_refl _, Nat.le_refl _⟩ ?_
  rintro vq N2 ⟨e1, hR⟩
  rw [e1]
  clear e1
  simp only [Option.toList_some, Option.toList_none, List.nil_append]
  cases hres : f (chR m) (a, w) with
  | error p =>
    rw [hres] at hR
    obtain ⟨hFb, hIb, hX⟩ := hR
    have hX : PX N2 a w.length p := hX
    have x1 := hX.1
    have x2 := hX.2.1
    refine j_aload_n rfl rfl ?_
    refine j_getI rfl f_X12_213 rfl ((hFb.st hS).lt (by decide)) ((hFb.st hS).k (by decide) (by decide)) ?_
    have u5_1 := mi_rng N2 86 18
    refine j_if_ge (tgt := 44) rfl (by decide) (by omega) (by omega) (fun hb8_1 => ?_) (fun hb8_1 => ?_)
    · skip
      refine j_vret rfl rfl ?_ rfl (Nat.le_refl _)
      refine ⟨rfl, ?_⟩
      show PR m N2 a o w (pLev (chR m) opO (f (chR m)) (a, w))
      unfold pLev
      rw [hres]
      exact ⟨hFb, hIb, hX⟩
    · skip
      exfalso; omega
  | ok q =>
    rw [hres] at hR
    obtain ⟨hFb, hIb, hPb⟩ := hR
    have hPb : PS N2 q.1 o q.2 := hPb
    obtain ⟨g1, g2, w2, g3, g4, g5, -⟩ := (hg a w ha0 ha1).1 q hres
    have g7 : (q.2.length : Int) ≤ w.length + (q.1 - a) := by rw [g3, List.length_append]; omega
    refine lp_X12_either_4 hf hg hS hI0 ha0 hl hd1 200 q.1 q.2 N2 hFb hIb hPb g1 g2 g7 (by omega) ?_
    show pLoop (chR m) opO (f (chR m)) 200 (q.1, q.2) = pLev (chR m) opO (f (chR m)) (a, w)
    unfold pLev
    rw [hres]
    rfl


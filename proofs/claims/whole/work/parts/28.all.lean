theorem tkL_same (b : Int) : ∀ (c : Nat) (l p i : Int) (N M : AM), SameP N M → (tkL b c l p i M).1 = (tkL b c l p i N).1 ∧ (tkL b c l p i M).2.1 = (tkL b c l p i N).2.1 ∧ SameP (tkL b c l p i N).2.2 (tkL b c l p i M).2.2 := by
  intro c
  induction c with
  | zero => intro l p i N M h; exact ⟨rfl, rfl, h⟩
  | succ c ih =>
    intro l p i N M h
    by_cases hc2 : mi N 92 ((12 * b) + l).toNat = (if p > 0 then 1 else 0)
    · have hc3 : mi M 92 ((12 * b) + l).toNat = (if p > 0 then 1 else 0) := (h.mi 92 _).trans hc2
      have e : tkL b (c + 1) l p i N = tkL b c (l + 1) (doM (cgM N b p) b l).1 l (doM (cgM N b p) b l).2 := if_pos hc2
      have e' : tkL b (c + 1) l p i M = tkL b c (l + 1) (doM (cgM M b p) b l).1 l (doM (cgM M b p) b l).2 := if_pos hc3
      have g := (h.cg b p).line b l
      rw [e, e', g.1]
      exact ih _ _ _ _ _ g.2
    · have hc3 : ¬ mi M 92 ((12 * b) + l).toNat = (if p > 0 then 1 else 0) := by rw [h.mi 92]; exact hc2
      have e : tkL b (c + 1) l p i N = tkL b c (l + 1) p i N := if_neg hc2
      have e' : tkL b (c + 1) l p i M = tkL b c (l + 1) p i M := if_neg hc3
      rw [e, e']
      exact ih _ _ _ _ _ h
theorem tkM_same {m M : AM} (h : SameP m M) (b : Int) : SameP (tkM m b) (tkM M b) := by
  unfold tkM
  rw [h.mi 91]
  have g := tkL_same b (mi m 91 b.toNat).toNat 0 0 0 m M h
  rw [g.1, g.2.1]
  exact tail_same g.2.2 _ _ _
theorem bxK_same {m M : AM} (h : SameP m M) (b : Int) : SameP (bxK m b) (bxK M b) := by
  unfold bxK
  rw [h.mi 86 43, h.mi 86 39, h.mi 86 44, h.mi 86 45]
  split
  · exact h.kill _ _
  · exact h
theorem bxT_same {m M : AM} (h : SameP m M) (b : Int) : SameP (bxT m b) (bxT M b) := by
  have k := bxK_same h b
  unfold bxT
  rw [k.mi 111, k.mi 86 46, k.mi 86 39, k.mi 86 47]
  split
  · exact k
  · exact tkM_same k b
theorem RT.of {m M : AM} (hr : RT m) (h : SameP m M) : RT M := by
  obtain ⟨L, rfl⟩ := h.ex
  exact hr

set_option maxRecDepth 20000 in
set_option maxHeartbeats 4000000 in
theorem lp_tickAll_40 {G : QW} {m E : AM} (hf : 0 ≤ mi m 86 45 ∧ mi m 86 45 ≤ 10) (hLK : ∀ b j, 0 ≤ b → b < mi m 86 1 → 0 ≤ j → j < mi m 91 b.toNat → LK m b ((12 * b) + j)) : ∀ (c : Nat) (b : Int) (N M : AM), Fr m N → Fq m N → RT N → SameP N M → b + c = mi m 86 1 → 0 ≤ b → taL c b N = E → qJ G mX12_tickAll { frames := 4, cells := 0, slots := 0, locals := 60 * 4 } (qF G (fun r m' => r = none ∧ SameP E m') 0 0) 40 [(0, vR 86), (1, vI b)] [] M 0 0 := by
  intro c
  induction c with
  | zero =>
    intro b N M hfr hfq hRN hs hc hb0 hE
    have hRM := hRN.of hs
    obtain ⟨⟨hS, hI, -⟩, -⟩ := hRM
    have hbx : mi M 86 1 = mi m 86 1 := (hs.mi 86 1).trans (hfq 1 (by decide))
    have hE : N = E := hE
    refine j_iload_n rfl rfl ?_
    refine j_aload_n rfl rfl ?_
    refine j_getI rfl f_X12_191 rfl (hS.lt (by decide)) (hS.k (by decide) (by decide)) ?_
    have u42_1 := hI.s 86 1 (0) 6 (by decide)
    refine j_icmp_ge (tgt := 115) rfl (by decide) (by omega) (by omega) (by omega) (by omega) (fun hb45_1 => ?_) (fun hb45_1 => ?_)
    · skip
      refine j_vret rfl rfl ?_ rfl (Nat.le_refl _)
      subst hE
      exact ⟨rfl, hs⟩
    · skip
      exfalso; omega
  | succ c ih =>
    intro b N M hfr hfq hRN hs hc hb0 hE
    have hRM := hRN.of hs
    have hbx : mi M 86 1 = mi m 86 1 := (hs.mi 86 1).trans (hfq 1 (by decide))
    have hfN : 0 ≤ mi N 86 45 ∧ mi N 86 45 ≤ 10 := by rw [hfq 45 (by decide)]; exact hf
    have hfM : 0 ≤ mi M 86 45 ∧ mi M 86 45 ≤ 10 := by rw [hs.mi 86 45]; exact hfN
    have hbb := hRM.1.2.1.s 86 1 0 6 (by decide)
    have hLN : ∀ j, 0 ≤ j → j < mi N 91 b.toNat → LK N b ((12 * b) + j) := fun j h0 h1 => hfr.prog (hLK b j hb0 (by omega) h0 (by rw [← hfr 91 (by decide)]; exact h1))
    have hT := bxT_keep hRN hfN hLN
    have hKM := bxK_keep hRM hfM b
    have hLM : ∀ j, 0 ≤ j → j < mi (bxK M b) 91 b.toNat → LK (bxK M b) b ((12 * b) + j) := fun j h0 h1 => hKM.2.1.prog (hs.LK (hLN j h0 (by rw [← hs.mi 91, ← hKM.2.1 91 (by decide)]; exact h1)))
    have hE : taL c (b + 1) (bxT N b) = E := hE
    have J76 : qJ G mX12_tickAll { frames := 4, cells := 0, slots := 0, locals := 60 * 4 } (qF G (fun r m' => r = none ∧ SameP E m') 0 0) 76 [(0, vR 86), (1, vI b)] [] (bxK M b) 0 0 := by
      obtain ⟨⟨hS, hI, -⟩, -⟩ := hKM.1
      refine j_aload_n rfl rfl ?_
      refine j_getR (q := 111) rfl f_X12_84 rfl (hS.lt (by decide)) (hS.k (by decide) (by decide)) (hS.r (by decide)) ?_
      refine j_iload_n rfl rfl ?_
      refine j_zald (n := 6) rfl (hS.lt (by decide)) (hS.k (by decide) (by decide)) (hS.n (by decide) (by decide)) (by omega) (by omega) (by decide) ?_
      have u81_1 := mi_rng (bxK M b) 111 b.toNat
      refine j_if_ne (tgt := 109) rfl (by decide) (by omega) (by omega) (fun hb82_1 => ?_) (fun hb82_1 => ?_)
      · skip
        refine j_iinc rfl rfl (by decide) ?_
        refine j_goto (tgt := 40) rfl (by decide) ?_
        refine j_loc (ls' := [(0, vR 86), (1, vI (b + 1))]) rfl ?_
        have e : bxT M b = bxK M b := by unfold bxT; rw [if_pos (by omega)]
        have g := (e ▸ bxT_same hs b : SameP (bxT N b) (bxK M b))
        exact ih (b + 1) (bxT N b) _ (hfr.trans hT.2.1) (hfq.trans hT.2.2) hT.1 g (by omega) (by omega) hE
      · skip
        refine j_iload_n rfl rfl ?_
        refine j_aload_n rfl rfl ?_
        refine j_getI rfl f_X12_306 rfl (hS.lt (by decide)) (hS.k (by decide) (by decide)) ?_
        have u87_1 := mi_rng (bxK M b) 86 46
        refine j_icmp_ne (tgt := 104) rfl (by decide) (by omega) (by omega) (by omega) (by omega) (fun hb90_1 => ?_) (fun hb90_1 => ?_)
        · skip
          refine j_aload_n rfl rfl ?_
          refine j_iload_n rfl rfl ?_
          refine j_callV (ci := 12) rfl okX12_tickOf c_X12_373 (ct_X12_tickOf hKM.1.1 hb0 (by omega) hLM) rfl rfl (hS.lt (by decide)) (hS.k (by decide) (by decide)) (by decide) rfl (Nat.le_of_ble_eq_true rfl) (by decide) (by decide) ?_
          rintro vq M2 ⟨e1, hs2⟩
          rw [e1]
          clear e1
          simp only [Option.toList_some, Option.toList_none, List.cons_append, List.nil_append]
          refine j_iinc rfl rfl (by decide) ?_
          refine j_goto (tgt := 40) rfl (by decide) ?_
          refine j_loc (ls' := [(0, vR 86), (1, vI (b + 1))]) rfl ?_
          have e : bxT M b = tkM (bxK M b) b := by unfold bxT; rw [if_neg (by omega)]
          have g := (e ▸ bxT_same hs b : SameP (bxT N b) (tkM (bxK M b) b)).trans hs2
          exact ih (b + 1) (bxT N b) _ (hfr.trans hT.2.1) (hfq.trans hT.2.2) hT.1 g (by omega) (by omega) hE
        · skip
          refine j_aload_n rfl rfl ?_
          refine j_getI rfl f_X12_322 rfl (hS.lt (by decide)) (hS.k (by decide) (by decide)) ?_
          have u94_1 := mi_rng (bxK M b) 86 39
          refine j_aload_n rfl rfl ?_
          refine j_getI rfl f_X12_370 rfl (hS.lt (by decide)) (hS.k (by decide) (by decide)) ?_
          have u98_1 := mi_rng (bxK M b) 86 47
          refine j_icmp_ge (tgt := 109) rfl (by decide) (by omega) (by omega) (by omega) (by omega) (fun hb101_1 => ?_) (fun hb101_1 => ?_)
          · skip
            refine j_iinc rfl rfl (by decide) ?_
            refine j_goto (tgt := 40) rfl (by decide) ?_
            refine j_loc (ls' := [(0, vR 86), (1, vI (b + 1))]) rfl ?_
            have e : bxT M b = bxK M b := by unfold bxT; rw [if_pos (by omega)]
            have g := (e ▸ bxT_same hs b : SameP (bxT N b) (bxK M b))
            exact ih (b + 1) (bxT N b) _ (hfr.trans hT.2.1) (hfq.trans hT.2.2) hT.1 g (by omega) (by omega) hE
          · skip
            refine j_aload_n rfl rfl ?_
            refine j_iload_n rfl rfl ?_
            refine j_callV (ci := 12) rfl okX12_tickOf c_X12_373 (ct_X12_tickOf hKM.1.1 hb0 (by omega) hLM) rfl rfl (hS.lt (by decide)) (hS.k (by decide) (by decide)) (by decide) rfl (Nat.le_of_ble_eq_true rfl) (by decide) (by decide) ?_
            rintro vq M2 ⟨e1, hs2⟩
            rw [e1]
            clear e1
            simp only [Option.toList_some, Option.toList_none, List.cons_append, List.nil_append]
            refine j_iinc rfl rfl (by decide) ?_
            refine j_goto (tgt := 40) rfl (by decide) ?_
            refine j_loc (ls' := [(0, vR 86), (1, vI (b + 1))]) rfl ?_
            have e : bxT M b = tkM (bxK M b) b := by unfold bxT; rw [if_neg (by omega)]
            have g := (e ▸ bxT_same hs b : SameP (bxT N b) (tkM (bxK M b) b)).trans hs2
            exact ih (b + 1) (bxT N b) _ (hfr.trans hT.2.1) (hfq.trans hT.2.2) hT.1 g (by omega) (by omega) hE
    obtain ⟨⟨hS, hI, -⟩, -⟩ := hRM
    refine j_iload_n rfl rfl ?_
    refine j_aload_n rfl rfl ?_
    refine j_getI rfl f_X12_191 rfl (hS.lt (by decide)) (hS.k (by decide) (by decide)) ?_
    have u42_1 := hI.s 86 1 (0) 6 (by decide)
    refine j_icmp_ge (tgt := 115) rfl (by decide) (by omega) (by omega) (by omega) (by omega) (fun hb45_1 => ?_) (fun hb45_1 => ?_)
    · skip
      exfalso; omega
    · skip
      refine j_iload_n rfl rfl ?_
      refine j_aload_n rfl rfl ?_
      refine j_getI rfl f_X12_303 rfl (hS.lt (by decide)) (hS.k (by decide) (by decide)) ?_
      have u50_1 := mi_rng M 86 43
      refine j_icmp_ne (tgt := 76) rfl (by decide) (by omega) (by omega) (by omega) (by omega) (fun hb53_1 => ?_) (fun hb53_1 => ?_)
      · skip
        have e : M = bxK M b := by unfold bxK; first | (rw [if_pos (by omega)]; done) | (rw [if_neg (by omega)]; done)
        rw [e]
        refine j_loc (ls' := [(0, vR 86), (1, vI b)]) rfl ?_
        exact J76
      · skip
        refine j_aload_n rfl rfl ?_
        refine j_getI rfl f_X12_322 rfl (hS.lt (by decide)) (hS.k (by decide) (by decide)) ?_
        have u57_1 := mi_rng M 86 39
        refine j_aload_n rfl rfl ?_
        refine j_getI rfl f_X12_364 rfl (hS.lt (by decide)) (hS.k (by decide) (by decide)) ?_
        have u61_1 := mi_rng M 86 44
        refine j_icmp_lt (tgt := 76) rfl (by decide) (by omega) (by omega) (by omega) (by omega) (fun hb64_1 => ?_) (fun hb64_1 => ?_)
        · skip
          have e : M = bxK M b := by unfold bxK; first | (rw [if_pos (by omega)]; done) | (rw [if_neg (by omega)]; done)
          rw [e]
          refine j_loc (ls' := [(0, vR 86), (1, vI b)]) rfl ?_
          exact J76
        · skip
          refine j_aload_n rfl rfl ?_
          refine j_iload_n rfl rfl ?_
          refine j_aload_n rfl rfl ?_
          refine j_getI rfl f_X12_367 rfl (hS.lt (by decide)) (hS.k (by decide) (by decide)) ?_
          have u70_1 := mi_rng M 86 45
          refine j_callV (ci := 12) rfl okX12_kill c_X12_349 (ct_X12_kill hS hI (by omega) (by omega) (by omega) (by omega) hb0 (by omega)) rfl rfl (hS.lt (by decide)) (hS.k (by decide) (by decide)) (by decide) rfl (Nat.le_of_ble_eq_true rfl) (by decide) (by decide) ?_
          rintro vq mq ⟨e1, e2⟩
          rw [e1, e2]
          clear e1 e2
          simp only [Option.toList_some, Option.toList_none, List.cons_append, List.nil_append]
          have e : (FX12_kill M b (mi M 86 45)) = bxK M b := by unfold bxK; first | (rw [if_pos (by omega)]; done) | (rw [if_neg (by omega)]; done)
          rw [e]
          refine j_loc (ls' := [(0, vR 86), (1, vI b)]) rfl ?_
          exact J76


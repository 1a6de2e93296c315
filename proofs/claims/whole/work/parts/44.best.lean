theorem shl_rng {k : Int} (h : 0 ≤ k) (h2 : k ≤ 8) : 1 ≤ z_ishl 1 k ∧ z_ishl 1 k ≤ 256 := by
  have hk : k = 0 ∨ k = 1 ∨ k = 2 ∨ k = 3 ∨ k = 4 ∨ k = 5 ∨ k = 6 ∨ k = 7 ∨ k = 8 := by omega
  rcases hk with rfl | rfl | rfl | rfl | rfl | rfl | rfl | rfl | rfl <;> decide +kernel
/-- sets of lines from l on, of one size: the first with which a box outlives the flights -/
def bsI (b fs n F own sz : Int) : Nat → Int → AM → Int × AM
  | 0, _, N => (-1, N)
  | c + 1, l, N =>
    if z_iand l own ≠ 0 ∨ bcX l ≠ sz then bsI b fs n F own sz c (l + 1) N
    else if (ivL b fs n F.toNat 0 (si N 86 49 l)).1 ≠ 0 then (l, (ivL b fs n F.toNat 0 (si N 86 49 l)).2)
    else bsI b fs n F own sz c (l + 1) (ivL b fs n F.toNat 0 (si N 86 49 l)).2
/-- sizes from s on -/
def bsO (b fs n F own top : Int) : Nat → Int → AM → Int × AM
  | 0, _, N => (-1, N)
  | c + 1, s, N =>
    if (bsI b fs n F own s top.toNat 0 N).1 ≥ 0 then bsI b fs n F own s top.toNat 0 N
    else bsO b fs n F own top c (s + 1) (bsI b fs n F own s top.toNat 0 N).2
theorem bsI_same (b fs n F own sz : Int) : ∀ (c : Nat) (l : Int) (N M : AM), SameP N M → (bsI b fs n F own sz c l M).1 = (bsI b fs n F own sz c l N).1 ∧ SameP (bsI b fs n F own sz c l N).2 (bsI b fs n F own sz c l M).2 := by
  intro c
  induction c with
  | zero => intro l N M h; exact ⟨rfl, h⟩
  | succ c ih =>
    intro l N M h
    have g := ivL_same b fs n F.toNat 0 _ _ (h.si 86 49 l)
    simp only [bsI, g.1]
    split
    · exact ih _ _ _ h
    · split
      · exact ⟨rfl, g.2⟩
      · exact ih _ _ _ g.2
theorem bsI_rng (b fs n F own sz : Int) : ∀ (c : Nat) (l : Int) (N : AM), 0 ≤ l → l + c ≤ 256 → -1 ≤ (bsI b fs n F own sz c l N).1 ∧ (bsI b fs n F own sz c l N).1 < 256 := by
  intro c
  induction c with
  | zero => intro l N h h2; exact ⟨by show (-1 : Int) ≤ -1; decide, by show (-1 : Int) < 256; decide⟩
  | succ c ih =>
    intro l N h h2
    simp only [bsI]
    split
    · exact ih _ _ (by omega) (by omega)
    · split
      · exact ⟨by dsimp only; omega, by dsimp only; omega⟩
      · exact ih _ _ (by omega) (by omega)
theorem bsO_rng (b fs n F own top : Int) (ht : 0 ≤ top) (ht2 : top ≤ 256) : ∀ (c : Nat) (s : Int) (N : AM), -1 ≤ (bsO b fs n F own top c s N).1 ∧ (bsO b fs n F own top c s N).1 < 256 := by
  intro c
  induction c with
  | zero => intro s N; exact ⟨by show (-1 : Int) ≤ -1; decide, by show (-1 : Int) < 256; decide⟩
  | succ c ih =>
    intro s N
    have g := bsI_rng b fs n F own s top.toNat 0 N (by omega) (by omega)
    simp only [bsO]
    split
    · exact g
    · exact ih _ _
theorem bsI_keep {m : AM} {b fs n F own sz : Int} (hn0 : 0 ≤ n) (hn : n ≤ 200) : ∀ (c : Nat) (l : Int) (N : AM), RI N → (∀ o j : Nat, (o ≠ 86 ∨ j ≠ 49) → ¬ (106 ≤ o ∧ o ≤ 114) → ¬ (o = 86 ∧ 35 ≤ j ∧ j ≤ 40) → mi N o j = mi m o j) → RI (bsI b fs n F own sz c l N).2 ∧ ∀ o j : Nat, (o ≠ 86 ∨ j ≠ 49) → ¬ (106 ≤ o ∧ o ≤ 114) → ¬ (o = 86 ∧ 35 ≤ j ∧ j ≤ 40) → mi (bsI b fs n F own sz c l N).2 o j = mi m o j := by
  intro c
  induction c with
  | zero => intro l N h h2; exact ⟨h, h2⟩
  | succ c ih =>
    intro l N h h2
    have k := ivL_keep (m := si N 86 49 l) (b := b) (fs := fs) hn0 hn F.toNat 0 (si N 86 49 l) (h.own (k := 49) l (by decide) (by decide)) (FR.rf _)
    have k2 : ∀ o j : Nat, (o ≠ 86 ∨ j ≠ 49) → ¬ (106 ≤ o ∧ o ≤ 114) → ¬ (o = 86 ∧ 35 ≤ j ∧ j ≤ 40) → mi (ivL b fs n F.toNat 0 (si N 86 49 l)).2 o j = mi m o j := fun o j a1 a2 a3 => (k.2.1.cell a2 a3).trans ((mi_si_ne _ _ (by rintro ⟨rfl, rfl⟩; omega)).trans (h2 o j a1 a2 a3))
    simp only [bsI]
    split
    · exact ih _ _ h h2
    · split
      · exact ⟨k.1, k2⟩
      · exact ih _ _ k.1 k2

set_option maxRecDepth 20000 in
set_option maxHeartbeats 4000000 in
theorem lp_best_154 {G : QW} {m : AM} {b fs tn what own k sz : Int} {E : Int × AM} {Rp : Option Vl → AM → Prop} (hb0 : 0 ≤ b) (hb5 : b ≤ 5) (htn0 : 0 ≤ tn) (htn1 : tn < 2147483648) (hn0 : 1 ≤ tn % 1000) (hn : tn % 1000 ≤ 200) (hfs0 : 0 ≤ fs) (hfs1 : fs < 2147483648) (hk0 : 0 ≤ k) (hk8 : k ≤ 8) (hown1 : -2147483648 ≤ own) (hown2 : own < 2147483648) (hsz0 : 0 ≤ sz) (hsz1 : sz ≤ 8)
    (hnone : ∀ M, RI E.2 → SameP E.2 M → (∀ o j : Nat, (o ≠ 86 ∨ j ≠ 49) → ¬ (106 ≤ o ∧ o ≤ 114) → ¬ (o = 86 ∧ 35 ≤ j ∧ j ≤ 40) → mi E.2 o j = mi m o j) → E.1 = -1 → ∀ l2 : Int, qJ G mX12_best { frames := 10, cells := 0, slots := 0, locals := 60 * 10 } (qF G Rp 0 0) 219 [(0, vR 86), (1, vI b), (2, vI fs), (3, vI tn), (4, vI what), (5, vI own), (6, vI k), (7, vI (-1)), (8, vI sz), (9, vI l2)] [] M 0 0)
    (hfound : ∀ M, RI E.2 → SameP E.2 M → (∀ o j : Nat, (o ≠ 86 ∨ j ≠ 49) → ¬ (106 ≤ o ∧ o ≤ 114) → ¬ (o = 86 ∧ 35 ≤ j ∧ j ≤ 40) → mi E.2 o j = mi m o j) → ∀ l l2 : Int, 0 ≤ l → (0 ≤ l2 ∧ l2 ≤ 256) → E.1 = l → qJ G mX12_best { frames := 10, cells := 0, slots := 0, locals := 60 * 10 } (qF G Rp 0 0) 154 [(0, vR 86), (1, vI b), (2, vI fs), (3, vI tn), (4, vI what), (5, vI own), (6, vI k), (7, vI l), (8, vI sz), (9, vI l2)] [] M 0 0) : ∀ (c : Nat) (l : Int) (N M : AM), l + c = z_ishl 1 k → 0 ≤ l → (∀ o j : Nat, (o ≠ 86 ∨ j ≠ 49) → ¬ (106 ≤ o ∧ o ≤ 114) → ¬ (o = 86 ∧ 35 ≤ j ∧ j ≤ 40) → mi N o j = mi m o j) → RI N → SameP N M → bsI b fs (tn % 1000) (mi m 86 21) own sz c l N = E → qJ G mX12_best { frames := 10, cells := 0, slots := 0, locals := 60 * 10 } (qF G Rp 0 0) 154 [(0, vR 86), (1, vI b), (2, vI fs), (3, vI tn), (4, vI what), (5, vI own), (6, vI k), (7, vI (-1)), (8, vI sz), (9, vI l)] [] M 0 0 := by
  intro c
  induction c with
  | zero =>
    intro l N M hc hl0 hfr hRN hs hE
    have hRM := hRN.of hs
    have e21 : mi M 86 21 = mi m 86 21 := (hs.mi 86 21).trans (hfr 86 21 (by omega) (by omega) (by omega))
    have hsh := shl_rng hk0 hk8
    have hE : (-1, N) = E := hE
    refine j_iload rfl rfl ?_
    refine j_iconst rfl ?_
    refine j_iload rfl rfl ?_
    refine j_ishl rfl ?_
    have z159_1 := z_ishl_rng 1 k
    refine j_icmp_ge (tgt := 219) rfl (by decide) (by omega) (by omega) (by omega) (by omega) (fun hb160_1 => ?_) (fun hb160_1 => ?_)
    · skip
      subst hE
      refine j_loc (ls' := [(0, vR 86), (1, vI b), (2, vI fs), (3, vI tn), (4, vI what), (5, vI own), (6, vI k), (7, vI (-1)), (8, vI sz), (9, vI l)]) rfl ?_
      exact hnone M hRN hs hfr rfl l
    · skip
      exfalso; omega
  | succ c ih =>
    intro l N M hc hl0 hfr hRN hs hE
    have hRM := hRN.of hs
    have e21 : mi M 86 21 = mi m 86 21 := (hs.mi 86 21).trans (hfr 86 21 (by omega) (by omega) (by omega))
    have hsh := shl_rng hk0 hk8
    simp only [bsI] at hE
    refine j_iload rfl rfl ?_
    refine j_iconst rfl ?_
    refine j_iload rfl rfl ?_
    refine j_ishl rfl ?_
    have z159_1 := z_ishl_rng 1 k
    refine j_icmp_ge (tgt := 219) rfl (by decide) (by omega) (by omega) (by omega) (by omega) (fun hb160_1 => ?_) (fun hb160_1 => ?_)
    · skip
      exfalso; omega
    · skip
      refine j_iload rfl rfl ?_
      refine j_if_ge (tgt := 219) rfl (by decide) (by omega) (by omega) (fun hb165_1 => ?_) (fun hb165_1 => ?_)
      · skip
        exfalso; omega
      · skip
        refine j_iload rfl rfl ?_
        refine j_iload rfl rfl ?_
        refine j_iand rfl ?_
        have z172_1 := z_iand_rng l own
        refine j_if_ne (tgt := 213) rfl (by decide) (by omega) (by omega) (fun hb173_1 => ?_) (fun hb173_1 => ?_)
        · skip
          refine j_iinc rfl rfl (by decide) ?_
          refine j_goto (tgt := 154) rfl (by decide) ?_
          refine j_loc (ls' := [(0, vR 86), (1, vI b), (2, vI fs), (3, vI tn), (4, vI what), (5, vI own), (6, vI k), (7, vI (-1)), (8, vI sz), (9, vI (l + 1))]) rfl ?_
          rw [if_pos (by omega)] at hE
          exact ih (l + 1) N M (by omega) (by omega) hfr hRN hs hE
        · skip
          refine j_iload rfl rfl ?_
          refine j_callS (As := [_]) rfl okX12_bitsOf c_X12_452 (ct_X12_bitsOf (by omega) (by omega)) rfl rfl (Nat.le_of_ble_eq_true rfl) (by decide) (by decide) ?_
          rintro vq mq ⟨e1, e2⟩
          rw [e1, e2]
          clear e1 e2
          simp only [Option.toList_some, Option.toList_none, List.cons_append, List.nil_append]
          have bq27 := bcX_rng l
          refine j_iload rfl rfl ?_
          refine j_icmp_eq (tgt := 189) rfl (by decide) (by omega) (by omega) (by omega) (by omega) (fun hb183_1 => ?_) (fun hb183_1 => ?_)
          · skip
            refine j_aload_n rfl rfl ?_
            refine j_iload rfl rfl ?_
            refine j_putI rfl f_X12_343 rfl (hRM.s.lt (by decide)) (hRM.s.k (by decide) (by decide)) ?_
            have hRM2 : RI (si M 86 49 l) := hRM.own (k := 49) l (by decide) (by decide)
            refine j_aload_n rfl rfl ?_
            refine j_iload_n rfl rfl ?_
            refine j_iload_n rfl rfl ?_
            refine j_iload_n rfl rfl ?_
            refine j_sipush rfl (by decide) ?_
            refine j_iremN rfl (by omega) (by omega) (by omega) (by omega) ?_
            refine j_callV (ci := 12) rfl okX12_isNeverDead c_X12_455 (ct_X12_isNeverDead hRM2 hb0 hb5 (by omega) (by omega) hfs0 hfs1) rfl rfl (hRM.s.lt (by decide)) (hRM.s.k (by decide) (by decide)) (by decide) rfl (Nat.le_of_ble_eq_true rfl) (by decide) (by decide) ?_
            rintro vq M2 ⟨e1, hs2⟩
            rw [e1]
            clear e1
            have hg := ivL_same b fs (tn % 1000) (mi m 86 21).toNat 0 _ _ (hs.si 86 49 l)
            have hq21 : mi (si M 86 49 l) 86 21 = mi m 86 21 := (mi_si_ne _ _ (by decide)).trans e21
            rw [hq21] at hs2 ⊢
            rw [hg.1]
            have g2 := hg.2.trans hs2
            have hk := ivL_keep (m := si N 86 49 l) (b := b) (fs := fs) (n := tn % 1000) (by omega) (by omega) (mi m 86 21).toNat 0 (si N 86 49 l) (hRN.own (k := 49) l (by decide) (by decide)) (FR.rf _)
            have hir := hk.2.2
            simp only [Option.toList_some, Option.toList_none, List.cons_append, List.nil_append]
            rw [if_neg (by omega)] at hE
            refine j_if_eq (tgt := 213) rfl (by decide) (by omega) (by omega) (fun hb206_1 => ?_) (fun hb206_1 => ?_)
            · skip
              refine j_iinc rfl rfl (by decide) ?_
              refine j_goto (tgt := 154) rfl (by decide) ?_
              refine j_loc (ls' := [(0, vR 86), (1, vI b), (2, vI fs), (3, vI tn), (4, vI what), (5, vI own), (6, vI k), (7, vI (-1)), (8, vI sz), (9, vI (l + 1))]) rfl ?_
              rw [if_neg (by omega)] at hE
              exact ih (l + 1) _ M2 (by omega) (by omega) (fun o j a1 a2 a3 => (hk.2.1.cell a2 a3).trans ((mi_si_ne _ _ (by rintro ⟨rfl, rfl⟩; omega)).trans (hfr o j a1 a2 a3))) hk.1 g2 hE
            · skip
              refine j_iload rfl rfl ?_
              refine j_istore rfl (by decide) ?_
              refine j_iinc rfl rfl (by decide) ?_
              refine j_goto (tgt := 154) rfl (by decide) ?_
              rw [if_pos (by omega)] at hE
              subst hE
              refine j_loc (ls' := [(0, vR 86), (1, vI b), (2, vI fs), (3, vI tn), (4, vI what), (5, vI own), (6, vI k), (7, vI l), (8, vI sz), (9, vI (l + 1))]) rfl ?_
              exact hfound M2 (hk.1) g2 (fun o j a1 a2 a3 => (hk.2.1.cell a2 a3).trans ((mi_si_ne _ _ (by rintro ⟨rfl, rfl⟩; omega)).trans (hfr o j a1 a2 a3))) l (l + 1) hl0 (by omega) rfl
          · skip
            refine j_goto (tgt := 213) rfl (by decide) ?_
            refine j_iinc rfl rfl (by decide) ?_
            refine j_goto (tgt := 154) rfl (by decide) ?_
            refine j_loc (ls' := [(0, vR 86), (1, vI b), (2, vI fs), (3, vI tn), (4, vI what), (5, vI own), (6, vI k), (7, vI (-1)), (8, vI sz), (9, vI (l + 1))]) rfl ?_
            rw [if_pos (by omega)] at hE
            exact ih (l + 1) N M (by omega) (by omega) hfr hRN hs hE

/-- what best() answers of a set that was found (below 0: none) -/
def beA (q what tn : Int) : Int := if q < 0 then -2 else if what = 0 then bcX q * (tn / 1000) else q

set_option maxRecDepth 20000 in
theorem lp_best_225 {G : QW} {M : AM} {b fs tn what own k q s : Int} {Rp : Option Vl → AM → Prop} (hRM : RI M) (htn0 : 0 ≤ tn) (htn1 : tn < 2147483648) (hw0 : 0 ≤ what) (hw1 : what ≤ 1) (hq0 : -1 ≤ q) (hq1 : q < 256) (ht9 : tn / 1000 ≤ 9) (hfin : Rp (some (vI (beA q what tn))) (aiM M)) : qJ G mX12_best { frames := 10, cells := 0, slots := 0, locals := 60 * 10 } (qF G Rp 0 0) 225 [(0, vR 86), (1, vI b), (2, vI fs), (3, vI tn), (4, vI what), (5, vI own), (6, vI k), (7, vI q), (8, vI s)] [] M 0 0 := by
  have hbq := bcX_rng q
  have hmu : 0 ≤ bcX q * (tn / 1000) ∧ bcX q * (tn / 1000) ≤ 72 := by
    have a1 := Int.mul_le_mul hbq.2 ht9 (by omega) (by omega : (0:Int) ≤ 8)
    have a2 := Int.mul_nonneg hbq.1 (show 0 ≤ tn / 1000 by omega)
    omega
  refine j_aload_n rfl rfl ?_
  refine j_callV (ci := 12) rfl okX12_asItIs c_X12_386 (ct_X12_asIs hRM) rfl rfl (hRM.s.lt (by decide)) (hRM.s.k (by decide) (by decide)) (by decide) rfl (Nat.le_of_ble_eq_true rfl) (by decide) (by decide) ?_
  rintro vq mq ⟨e1, e2⟩
  rw [e1, e2]
  clear e1 e2
  simp only [Option.toList_some, Option.toList_none, List.cons_append, List.nil_append]
  refine j_iload rfl rfl ?_
  refine j_if_ge (tgt := 239) rfl (by decide) (by omega) (by omega) (fun hb231_1 => ?_) (fun hb231_1 => ?_)
  · skip
    refine j_iload rfl rfl ?_
    refine j_if_ne (tgt := 258) rfl (by decide) (by omega) (by omega) (fun hb241_1 => ?_) (fun hb241_1 => ?_)
    · skip
      refine j_iload rfl rfl ?_
      refine j_iret rfl rfl ?_ rfl (Nat.le_refl _)
      have e : beA q what tn = q := by unfold beA; rw [if_neg (by omega), if_neg (by omega)]
      rw [← e]
      exact hfin
    · skip
      refine j_iload rfl rfl ?_
      refine j_callS (As := [_]) rfl okX12_bitsOf c_X12_452 (ct_X12_bitsOf (by omega) (by omega)) rfl rfl (Nat.le_of_ble_eq_true rfl) (by decide) (by decide) ?_
      rintro vq mq ⟨e1, e2⟩
      rw [e1, e2]
      clear e1 e2
      simp only [Option.toList_some, Option.toList_none, List.cons_append, List.nil_append]
      have bq19 := bcX_rng q
      refine j_iload_n rfl rfl ?_
      refine j_sipush rfl (by decide) ?_
      refine j_idivN rfl (by omega) (by omega) (by omega) (by omega) ?_
      refine j_imul rfl ?_
      refine j_goto (tgt := 260) rfl (by decide) ?_
      refine j_iret rfl rfl ?_ rfl (Nat.le_refl _)
      have e : beA q what tn = (bcX q) * (tn / 1000) := by unfold beA; rw [if_neg (by omega), if_pos (by omega)]
      rw [← e]
      exact hfin
  · skip
    refine j_bipush rfl (by decide) ?_
    refine j_goto (tgt := 260) rfl (by decide) ?_
    refine j_iret rfl rfl ?_ rfl (Nat.le_refl _)
    have e : beA q what tn = (-2) := by unfold beA; rw [if_pos (by omega)]
    rw [← e]
    exact hfin

set_option maxRecDepth 20000 in
set_option maxHeartbeats 4000000 in
theorem lp_best_139 {G : QW} {m : AM} {b fs tn what own k : Int} {E : Int × AM} (hb0 : 0 ≤ b) (hb5 : b ≤ 5) (htn0 : 0 ≤ tn) (htn1 : tn < 2147483648) (hn0 : 1 ≤ tn % 1000) (hn : tn % 1000 ≤ 200) (hfs0 : 0 ≤ fs) (hfs1 : fs < 2147483648) (hk0 : 0 ≤ k) (hk8 : k ≤ 8) (hown1 : -2147483648 ≤ own) (hown2 : own < 2147483648) (hw0 : 0 ≤ what) (hw1 : what ≤ 1) (ht9 : tn / 1000 ≤ 9) : ∀ (c : Nat) (s : Int) (N M : AM), s + c = k + 1 → 0 ≤ s → (∀ o j : Nat, (o ≠ 86 ∨ j ≠ 49) → ¬ (106 ≤ o ∧ o ≤ 114) → ¬ (o = 86 ∧ 35 ≤ j ∧ j ≤ 40) → mi N o j = mi m o j) → RI N → SameP N M → bsO b fs (tn % 1000) (mi m 86 21) own (z_ishl 1 k) c s N = E → qJ G mX12_best { frames := 10, cells := 0, slots := 0, locals := 60 * 10 } (qF G (fun r m' => r = some (vI (beA E.1 what tn)) ∧ SameP (aiM E.2) m') 0 0) 139 [(0, vR 86), (1, vI b), (2, vI fs), (3, vI tn), (4, vI what), (5, vI own), (6, vI k), (7, vI (-1)), (8, vI s)] [] M 0 0 := by
  intro c
  induction c with
  | zero =>
    intro s N M hc hs0 hfr hRN hs hE
    have hRM := hRN.of hs
    have e21 : mi M 86 21 = mi m 86 21 := (hs.mi 86 21).trans (hfr 86 21 (by omega) (by omega) (by omega))
    have hsh := shl_rng hk0 hk8
    have hE : (-1, N) = E := hE
    refine j_iload rfl rfl ?_
    refine j_iload rfl rfl ?_
    refine j_icmp_gt (tgt := 225) rfl (by decide) (by omega) (by omega) (by omega) (by omega) (fun hb143_1 => ?_) (fun hb143_1 => ?_)
    · skip
      subst hE
      refine j_loc (ls' := [(0, vR 86), (1, vI b), (2, vI fs), (3, vI tn), (4, vI what), (5, vI own), (6, vI k), (7, vI (-1)), (8, vI s)]) rfl ?_
      refine lp_best_225 hRM htn0 htn1 hw0 hw1 (by omega) (by omega) ht9 ?_
      exact ⟨rfl, hs.asIs⟩
    · skip
      exfalso; omega
  | succ c ih =>
    intro s N M hc hs0 hfr hRN hs hE
    have hRM := hRN.of hs
    have e21 : mi M 86 21 = mi m 86 21 := (hs.mi 86 21).trans (hfr 86 21 (by omega) (by omega) (by omega))
    have hsh := shl_rng hk0 hk8
    simp only [bsO] at hE
    refine j_iload rfl rfl ?_
    refine j_iload rfl rfl ?_
    refine j_icmp_gt (tgt := 225) rfl (by decide) (by omega) (by omega) (by omega) (by omega) (fun hb143_1 => ?_) (fun hb143_1 => ?_)
    · skip
      exfalso; omega
    · skip
      refine j_iload rfl rfl ?_
      refine j_if_ge (tgt := 225) rfl (by decide) (by omega) (by omega) (fun hb148_1 => ?_) (fun hb148_1 => ?_)
      · skip
        exfalso; omega
      · skip
        refine j_iconst rfl ?_
        refine j_istore rfl (by decide) ?_
        refine j_loc (ls' := [(0, vR 86), (1, vI b), (2, vI fs), (3, vI tn), (4, vI what), (5, vI own), (6, vI k), (7, vI (-1)), (8, vI s), (9, vI 0)]) rfl ?_
        refine lp_best_154 (m := m) (E := (bsI b fs (tn % 1000) (mi m 86 21) own s (z_ishl 1 k).toNat 0 N)) hb0 hb5 htn0 htn1 hn0 hn hfs0 hfs1 hk0 hk8 hown1 hown2 (by omega) (by omega) (fun M2 hR2 hs2 hfr2 hm1 l2 => ?_) (fun M2 hR2 hs2 hfr2 l l2 hl0 hl2 hq => ?_) (z_ishl 1 k).toNat 0 N M (by omega) (Int.le_refl 0) hfr hRN hs rfl
        · rw [if_neg (by omega)] at hE
          refine j_iinc rfl rfl (by decide) ?_
          refine j_goto (tgt := 139) rfl (by decide) ?_
          refine j_loc (ls' := [(0, vR 86), (1, vI b), (2, vI fs), (3, vI tn), (4, vI what), (5, vI own), (6, vI k), (7, vI (-1)), (8, vI (s + 1))]) rfl ?_
          exact ih (s + 1) _ M2 (by omega) (by omega) hfr2 hR2 hs2 hE
        · rw [if_pos (by omega)] at hE
          have hbi := bsI_rng b fs (tn % 1000) (mi m 86 21) own s (z_ishl 1 k).toNat 0 N (by omega) (by omega)
          refine j_iload rfl rfl ?_
          refine j_iconst rfl ?_
          refine j_iload rfl rfl ?_
          refine j_ishl rfl ?_
          have z159_1 := z_ishl_rng 1 k
          refine j_icmp_ge (tgt := 219) rfl (by decide) (by omega) (by omega) (by omega) (by omega) (fun hb160_1 => ?_) (fun hb160_1 => ?_)
          · skip
            refine j_iinc rfl rfl (by decide) ?_
            refine j_goto (tgt := 139) rfl (by decide) ?_
            refine j_iload rfl rfl ?_
            refine j_iload rfl rfl ?_
            refine j_icmp_gt (tgt := 225) rfl (by decide) (by omega) (by omega) (by omega) (by omega) (fun hb143_1 => ?_) (fun hb143_1 => ?_)
            · skip
              refine j_loc (ls' := [(0, vR 86), (1, vI b), (2, vI fs), (3, vI tn), (4, vI what), (5, vI own), (6, vI k), (7, vI l), (8, vI (s + 1))]) rfl ?_
              refine lp_best_225 (hR2.of hs2) htn0 htn1 hw0 hw1 (by omega) (by omega) ht9 ?_
              exact ⟨by rw [← hq, hE], by rw [← hE]; exact hs2.asIs⟩
            · skip
              refine j_iload rfl rfl ?_
              refine j_if_ge (tgt := 225) rfl (by decide) (by omega) (by omega) (fun hb148_1 => ?_) (fun hb148_1 => ?_)
              · skip
                refine j_loc (ls' := [(0, vR 86), (1, vI b), (2, vI fs), (3, vI tn), (4, vI what), (5, vI own), (6, vI k), (7, vI l), (8, vI (s + 1))]) rfl ?_
                refine lp_best_225 (hR2.of hs2) htn0 htn1 hw0 hw1 (by omega) (by omega) ht9 ?_
                exact ⟨by rw [← hq, hE], by rw [← hE]; exact hs2.asIs⟩
              · skip
                exfalso; omega
          · skip
            refine j_iload rfl rfl ?_
            refine j_if_ge (tgt := 219) rfl (by decide) (by omega) (by omega) (fun hb165_1 => ?_) (fun hb165_1 => ?_)
            · skip
              refine j_iinc rfl rfl (by decide) ?_
              refine j_goto (tgt := 139) rfl (by decide) ?_
              refine j_iload rfl rfl ?_
              refine j_iload rfl rfl ?_
              refine j_icmp_gt (tgt := 225) rfl (by decide) (by omega) (by omega) (by omega) (by omega) (fun hb143_2 => ?_) (fun hb143_2 => ?_)
              · skip
                refine j_loc (ls' := [(0, vR 86), (1, vI b), (2, vI fs), (3, vI tn), (4, vI what), (5, vI own), (6, vI k), (7, vI l), (8, vI (s + 1))]) rfl ?_
                refine lp_best_225 (hR2.of hs2) htn0 htn1 hw0 hw1 (by omega) (by omega) ht9 ?_
                exact ⟨by rw [← hq, hE], by rw [← hE]; exact hs2.asIs⟩
              · skip
                refine j_iload rfl rfl ?_
                refine j_if_ge (tgt := 225) rfl (by decide) (by omega) (by omega) (fun hb148_2 => ?_) (fun hb148_2 => ?_)
                · skip
                  refine j_loc (ls' := [(0, vR 86), (1, vI b), (2, vI fs), (3, vI tn), (4, vI what), (5, vI own), (6, vI k), (7, vI l), (8, vI (s + 1))]) rfl ?_
                  refine lp_best_225 (hR2.of hs2) htn0 htn1 hw0 hw1 (by omega) (by omega) ht9 ?_
                  exact ⟨by rw [← hq, hE], by rw [← hE]; exact hs2.asIs⟩
                · skip
                  exfalso; omega
            · skip
              exfalso; omega

def ownF (m : AM) (b : Int) : Nat → Int := fun j => mi m 93 ((12 * b) + j).toNat
def manyX (m : AM) (b : Int) : Int := if mi m 91 b.toNat < 8 then mi m 91 b.toNat else 8
def beE (m : AM) (b fs tn : Int) : Int × AM := bsO b fs (tn % 1000) (mi m 86 21) (orL (ownF m b) (manyX m b).toNat) (z_ishl 1 (manyX m b)) (manyX m b + 1).toNat 0 (si (aiM m) 86 48 b)
/-- best() of the reference -/
def besR (m : AM) (b fs tn what : Int) : Int × AM :=
  if (0 ≤ b ∧ b < mi m 86 1) ∧ (0 ≤ fs ∧ z_ishr fs (mi m 86 21) = 0) ∧ 0 ≤ tn ∧ (1 ≤ tn / 1000 ∧ tn / 1000 ≤ 9) ∧ (1 ≤ tn % 1000 ∧ tn % 1000 ≤ 200) ∧ (0 ≤ what ∧ what ≤ 1) then (beA (beE m b fs tn).1 what tn, aiM (beE m b fs tn).2) else (-1, m)
theorem ownF_up {m : AM} {b l : Int} (h : 0 ≤ l) : orL (ownF m b) (l + 1).toNat = if mi m 93 ((12 * b) + l).toNat ≠ 0 then z_ior (orL (ownF m b) l.toNat) (z_ishl 1 l) else orL (ownF m b) l.toNat := by
  rw [orL_up h]
  unfold ownF
  rw [show ((l.toNat : Nat) : Int) = l by omega]

set_option maxRecDepth 20000 in
set_option maxHeartbeats 4000000 in
theorem lp_best_87 {G : QW} {m : AM} {b fs tn what k : Int} {Rp : Option Vl → AM → Prop} (hS : St m) (hI : IM m) (hb0 : 0 ≤ b) (hb5 : b ≤ 5) (hk0 : 0 ≤ k) (hk8 : k ≤ 8) (hexit : qJ G mX12_best { frames := 10, cells := 0, slots := 0, locals := 60 * 10 } (qF G Rp 0 0) 124 [(0, vR 86), (1, vI b), (2, vI fs), (3, vI tn), (4, vI what), (5, vI (orL (ownF m b) k.toNat)), (6, vI k)] [] m 0 0) : ∀ (c : Nat) (l : Int), l + c = k → 0 ≤ l → qJ G mX12_best { frames := 10, cells := 0, slots := 0, locals := 60 * 10 } (qF G Rp 0 0) 87 [(0, vR 86), (1, vI b), (2, vI fs), (3, vI tn), (4, vI what), (5, vI (orL (ownF m b) l.toNat)), (6, vI k), (7, vI l)] [] m 0 0 := by
  intro c
  induction c with
  | zero =>
    intro l hc hl0
    have hor := orL_rng (ownF m b) l.toNat
    refine j_iload rfl rfl ?_
    refine j_iload rfl rfl ?_
    refine j_icmp_ge (tgt := 124) rfl (by decide) (by omega) (by omega) (by omega) (by omega) (fun hb91_1 => ?_) (fun hb91_1 => ?_)
    · skip
      rw [show l = k by omega]
      refine j_loc (ls' := [(0, vR 86), (1, vI b), (2, vI fs), (3, vI tn), (4, vI what), (5, vI (orL (ownF m b) k.toNat)), (6, vI k)]) rfl ?_
      exact hexit
    · skip
      exfalso; omega
  | succ c ih =>
    intro l hc hl0
    have hor := orL_rng (ownF m b) l.toNat
    refine j_iload rfl rfl ?_
    refine j_iload rfl rfl ?_
    refine j_icmp_ge (tgt := 124) rfl (by decide) (by omega) (by omega) (by omega) (by omega) (fun hb91_1 => ?_) (fun hb91_1 => ?_)
    · skip
      exfalso; omega
    · skip
      refine j_aload_n rfl rfl ?_
      refine j_getR (q := 93) rfl f_X12_29 rfl (hS.lt (by decide)) (hS.k (by decide) (by decide)) (hS.r (by decide)) ?_
      refine j_bipush rfl (by decide) ?_
      refine j_iload_n rfl rfl ?_
      refine j_imul rfl ?_
      refine j_iload rfl rfl ?_
      refine j_iadd rfl ?_
      refine j_zald (n := 84) rfl (hS.lt (by decide)) (hS.k (by decide) (by decide)) (hS.n (by decide) (by decide)) (by omega) (by omega) (by decide) ?_
      have u105_1 := hI.a 93 (0) 1 (by decide) ((12 * b) + l).toNat
      refine j_if_eq (tgt := 118) rfl (by decide) (by omega) (by omega) (fun hb106_1 => ?_) (fun hb106_1 => ?_)
      · skip
        refine j_iinc rfl rfl (by decide) ?_
        refine j_goto (tgt := 87) rfl (by decide) ?_
        have hu : (orL (ownF m b) l.toNat) = (orL (ownF m b) (l + 1).toNat) := by rw [ownF_up hl0]; first | (rw [if_pos (by omega)]; done) | (rw [if_neg (by omega)]; done)
        rw [hu]
        refine j_loc (ls' := [(0, vR 86), (1, vI b), (2, vI fs), (3, vI tn), (4, vI what), (5, vI (orL (ownF m b) (l + 1).toNat)), (6, vI k), (7, vI (l + 1))]) rfl ?_
        exact ih (l + 1) (by omega) (by omega)
      · skip
        refine j_iload rfl rfl ?_
        refine j_iconst rfl ?_
        refine j_iload rfl rfl ?_
        refine j_ishl rfl ?_
        have z114_1 := z_ishl_rng 1 l
        refine j_ior rfl ?_
        have z115_1 := z_ior_rng (orL (ownF m b) l.toNat) (z_ishl 1 l)
        refine j_istore rfl (by decide) ?_
        refine j_iinc rfl rfl (by decide) ?_
        refine j_goto (tgt := 87) rfl (by decide) ?_
        have hu : z_ior (orL (ownF m b) l.toNat) (z_ishl 1 l) = (orL (ownF m b) (l + 1).toNat) := by rw [ownF_up hl0]; first | (rw [if_pos (by omega)]; done) | (rw [if_neg (by omega)]; done)
        rw [hu]
        refine j_loc (ls' := [(0, vR 86), (1, vI b), (2, vI fs), (3, vI tn), (4, vI what), (5, vI (orL (ownF m b) (l + 1).toNat)), (6, vI k), (7, vI (l + 1))]) rfl ?_
        exact ih (l + 1) (by omega) (by omega)

set_option maxRecDepth 20000 in
set_option maxHeartbeats 4000000 in
theorem lp_best_124 {G : QW} {m : AM} {b fs tn what : Int} (h : RI m) (hcond : ((0 ≤ b ∧ b < mi m 86 1) ∧ (0 ≤ fs ∧ z_ishr fs (mi m 86 21) = 0) ∧ 0 ≤ tn ∧ (1 ≤ tn / 1000 ∧ tn / 1000 ≤ 9) ∧ (1 ≤ tn % 1000 ∧ tn % 1000 ≤ 200) ∧ (0 ≤ what ∧ what ≤ 1))) (htn2 : tn < 2147483648) (hfs2 : fs < 2147483648) : qJ G mX12_best { frames := 10, cells := 0, slots := 0, locals := 60 * 10 } (qF G (fun r m' => r = some (vI (besR m b fs tn what).1) ∧ SameP (besR m b fs tn what).2 m') 0 0) 124 [(0, vR 86), (1, vI b), (2, vI fs), (3, vI tn), (4, vI what), (5, vI (orL (ownF m b) (manyX m b).toNat)), (6, vI (manyX m b))] [] m 0 0 := by
  have hS := h.s
  have hI := h.i
  have hbx := hI.s 86 1 0 6 (by decide)
  have hb0 : 0 ≤ b := hcond.1.1
  have hb5 : b ≤ 5 := by omega
  have hlm := hI.a 91 0 12 (by decide) b.toNat
  have hk : 0 ≤ manyX m b ∧ manyX m b ≤ 8 := by unfold manyX; split <;> omega
  obtain ⟨hk0, hk8⟩ := hk
  refine j_aload_n rfl rfl ?_
  refine j_callV (ci := 12) rfl okX12_asItIs c_X12_386 (ct_X12_asIs h) rfl rfl (hS.lt (by decide)) (hS.k (by decide) (by decide)) (by decide) rfl (Nat.le_of_ble_eq_true rfl) (by decide) (by decide) ?_
  rintro vq mq ⟨e1, e2⟩
  rw [e1, e2]
  clear e1 e2
  simp only [Option.toList_some, Option.toList_none, List.cons_append, List.nil_append]
  refine j_aload_n rfl rfl ?_
  refine j_iload_n rfl rfl ?_
  refine j_putI rfl f_X12_309 rfl (hS.lt (by decide)) (hS.k (by decide) (by decide)) ?_
  refine j_iconst rfl ?_
  refine j_istore rfl (by decide) ?_
  refine j_iconst rfl ?_
  refine j_istore rfl (by decide) ?_
  refine j_loc (ls' := [(0, vR 86), (1, vI b), (2, vI fs), (3, vI tn), (4, vI what), (5, vI (orL (ownF m b) (manyX m b).toNat)), (6, vI (manyX m b)), (7, vI (-1)), (8, vI 0)]) rfl ?_
  have e : besR m b fs tn what = (beA (beE m b fs tn).1 what tn, aiM (beE m b fs tn).2) := by unfold besR; rw [if_pos hcond]
  rw [e]
  have hor := orL_rng (ownF m b) (manyX m b).toNat
  have hRa : RI (si (aiM m) 86 48 b) := h.asIs.own (k := 48) b (by decide) (by decide)
  have e21 : mi (si (aiM m) 86 48 b) 86 21 = mi m 86 21 := (mi_si_ne _ _ (by decide)).trans (aiM_mi m (by omega))
  refine lp_best_139 (m := si (aiM m) 86 48 b) (E := beE m b fs tn) hb0 hb5 hcond.2.2.1 htn2 hcond.2.2.2.2.1.1 hcond.2.2.2.2.1.2 hcond.2.1.1 hfs2 hk0 hk8 hor.1 hor.2 hcond.2.2.2.2.2.1 hcond.2.2.2.2.2.2 hcond.2.2.2.1.2 (manyX m b + 1).toNat 0 (si (aiM m) 86 48 b) (si (aiM m) 86 48 b) (by omega) (Int.le_refl 0) (fun o j _ _ _ => rfl) hRa (SameP.rf _) ?_
  rw [e21]
  rfl

set_option maxRecDepth 20000 in
set_option maxHeartbeats 4000000 in
theorem ct_X12_best {G : QW} {m : AM} {b fs tn what : Int} (h : RI m) (hb1 : -2147483648 ≤ b) (hb2 : b < 2147483648) (hfs1 : -2147483648 ≤ fs) (hfs2 : fs < 2147483648) (htn1 : -2147483648 ≤ tn) (htn2 : tn < 2147483648) (hwhat1 : -2147483648 ≤ what) (hwhat2 : what < 2147483648) : qM G mX12_best 10 0 0 [vR 86, vI b, vI fs, vI tn, vI what] m (fun r m' => r = some (vI (besR m b fs tn what).1) ∧ SameP (besR m b fs tn what).2 m') := by
  refine qM.intro okX12_best (Nat.le_of_ble_eq_true rfl) ?_
  have hS := h.s
  have hI := h.i
  have hfl := hI.s 86 21 0 8 (by decide)
  have hbx := hI.s 86 1 0 6 (by decide)
  refine j_aload_n rfl rfl ?_
  refine j_iload_n rfl rfl ?_
  refine j_callV (ci := 12) rfl okX12_isBox c_X12_198 (ct_X12_isBox hS hI (by omega) (by omega)) rfl rfl (hS.lt (by decide)) (hS.k (by decide) (by decide)) (by decide) rfl (Nat.le_of_ble_eq_true rfl) (by decide) (by decide) ?_
  rintro vq mq ⟨e1, e2⟩
  rw [e1, e2]
  clear e1 e2
  simp only [Option.toList_some, Option.toList_none, List.cons_append, List.nil_append]
  have w1 := hI.s 86 1 (0) 6 (by decide)
  refine j_bif_eq (tgt := 55) rfl (by decide) (fun hb5_1 => ?_) (fun hb5_1 => ?_)
  · skip
    refine j_iconst rfl ?_
    refine j_iret rfl rfl ?_ rfl (Nat.le_refl _)
    exact ⟨by unfold besR; rw [if_neg (by omega)], by unfold besR; rw [if_neg (by omega)]; exact SameP.rf m⟩
  · skip
    refine j_aload_n rfl rfl ?_
    refine j_iload_n rfl rfl ?_
    refine j_callV (ci := 12) rfl okX12_areFlights c_X12_449 (ct_X12_areFlights hS hI (by omega) (by omega)) rfl rfl (hS.lt (by decide)) (hS.k (by decide) (by decide)) (by decide) rfl (Nat.le_of_ble_eq_true rfl) (by decide) (by decide) ?_
    rintro vq mq ⟨e1, e2⟩
    rw [e1, e2]
    clear e1 e2
    simp only [Option.toList_some, Option.toList_none, List.cons_append, List.nil_append]
    have w2 := hI.s 86 21 (0) 8 (by decide)
    refine j_bif_eq (tgt := 55) rfl (by decide) (fun hb13_1 => ?_) (fun hb13_1 => ?_)
    · skip
      refine j_iconst rfl ?_
      refine j_iret rfl rfl ?_ rfl (Nat.le_refl _)
      exact ⟨by unfold besR; rw [if_neg (by omega)], by unfold besR; rw [if_neg (by omega)]; exact SameP.rf m⟩
    · skip
      refine j_iload_n rfl rfl ?_
      refine j_if_lt (tgt := 55) rfl (by decide) (by omega) (by omega) (fun hb17_1 => ?_) (fun hb17_1 => ?_)
      · skip
        refine j_iconst rfl ?_
        refine j_iret rfl rfl ?_ rfl (Nat.le_refl _)
        exact ⟨by unfold besR; rw [if_neg (by omega)], by unfold besR; rw [if_neg (by omega)]; exact SameP.rf m⟩
      · skip
        refine j_iload_n rfl rfl ?_
        refine j_sipush rfl (by decide) ?_
        refine j_idivN rfl (by omega) (by omega) (by omega) (by omega) ?_
        refine j_iconst rfl ?_
        refine j_bipush rfl (by decide) ?_
        refine j_callS (As := [_, _, _]) rfl okX12_in c_X12_194 (ct_X12_in (by omega) (by omega) (by omega) (by omega) (by omega) (by omega)) rfl rfl (Nat.le_of_ble_eq_true rfl) (by decide) (by decide) ?_
        rintro vq mq ⟨e1, e2⟩
        rw [e1, e2]
        clear e1 e2
        simp only [Option.toList_some, Option.toList_none, List.cons_append, List.nil_append]
        refine j_bif_eq (tgt := 55) rfl (by decide) (fun hb31_1 => ?_) (fun hb31_1 => ?_)
        · skip
          refine j_iconst rfl ?_
          refine j_iret rfl rfl ?_ rfl (Nat.le_refl _)
          exact ⟨by unfold besR; rw [if_neg (by omega)], by unfold besR; rw [if_neg (by omega)]; exact SameP.rf m⟩
        · skip
          refine j_iload_n rfl rfl ?_
          refine j_sipush rfl (by decide) ?_
          refine j_iremN rfl (by omega) (by omega) (by omega) (by omega) ?_
          refine j_callS (As := [_]) rfl okX12_isTicks c_X12_383 (ct_X12_isTicks (by omega) (by omega)) rfl rfl (Nat.le_of_ble_eq_true rfl) (by decide) (by decide) ?_
          rintro vq mq ⟨e1, e2⟩
          rw [e1, e2]
          clear e1 e2
          simp only [Option.toList_some, Option.toList_none, List.cons_append, List.nil_append]
          refine j_bif_eq (tgt := 55) rfl (by decide) (fun hb42_1 => ?_) (fun hb42_1 => ?_)
          · skip
            refine j_iconst rfl ?_
            refine j_iret rfl rfl ?_ rfl (Nat.le_refl _)
            exact ⟨by unfold besR; rw [if_neg (by omega)], by unfold besR; rw [if_neg (by omega)]; exact SameP.rf m⟩
          · skip
            refine j_iload rfl rfl ?_
            refine j_iconst rfl ?_
            refine j_iconst rfl ?_
            refine j_callS (As := [_, _, _]) rfl okX12_in c_X12_194 (ct_X12_in (by omega) (by omega) (by omega) (by omega) (by omega) (by omega)) rfl rfl (Nat.le_of_ble_eq_true rfl) (by decide) (by decide) ?_
            rintro vq mq ⟨e1, e2⟩
            rw [e1, e2]
            clear e1 e2
            simp only [Option.toList_some, Option.toList_none, List.cons_append, List.nil_append]
            refine j_bif_ne (tgt := 57) rfl (by decide) (fun hb52_1 => ?_) (fun hb52_1 => ?_)
            · skip
              have hcond : ((0 ≤ b ∧ b < mi m 86 1) ∧ (0 ≤ fs ∧ z_ishr fs (mi m 86 21) = 0) ∧ 0 ≤ tn ∧ (1 ≤ tn / 1000 ∧ tn / 1000 ≤ 9) ∧ (1 ≤ tn % 1000 ∧ tn % 1000 ≤ 200) ∧ (0 ≤ what ∧ what ≤ 1)) := by omega
              have hlm := hI.a 91 0 12 (by decide) b.toNat
              have hk : 0 ≤ manyX m b ∧ manyX m b ≤ 8 := by unfold manyX; split <;> omega
              have J87 : qJ G mX12_best { frames := 10, cells := 0, slots := 0, locals := 60 * 10 } (qF G (fun r m' => r = some (vI (besR m b fs tn what).1) ∧ SameP (besR m b fs tn what).2 m') 0 0) 87 [(0, vR 86), (1, vI b), (2, vI fs), (3, vI tn), (4, vI what), (5, vI 0), (6, vI (manyX m b)), (7, vI 0)] [] m 0 0 := lp_best_87 hS hI (by omega) (by omega) hk.1 hk.2 (lp_best_124 h hcond (by omega) (by omega)) (manyX m b).toNat 0 (by omega) (Int.le_refl 0)
              refine j_iconst rfl ?_
              refine j_istore rfl (by decide) ?_
              refine j_aload_n rfl rfl ?_
              refine j_getR (q := 91) rfl f_X12_22 rfl (hS.lt (by decide)) (hS.k (by decide) (by decide)) (hS.r (by decide)) ?_
              refine j_iload_n rfl rfl ?_
              refine j_iald (n := 7) rfl (hS.lt (by decide)) (hS.k (by decide) (by decide)) (hS.n (by decide) (by decide)) (by omega) (by omega) (by decide) ?_
              have u65_1 := hI.a 91 (0) 12 (by decide) b.toNat
              refine j_bipush rfl (by decide) ?_
              refine j_icmp_ge (tgt := 80) rfl (by decide) (by omega) (by omega) (by omega) (by omega) (fun hb68_1 => ?_) (fun hb68_1 => ?_)
              · skip
                refine j_bipush rfl (by decide) ?_
                refine j_istore rfl (by decide) ?_
                refine j_iconst rfl ?_
                refine j_istore rfl (by decide) ?_
                have hk : 8 = manyX m b := by unfold manyX; first | (rw [if_pos (by omega)]; done) | (rw [if_neg (by omega)]; done)
                rw [hk]
                refine j_loc (ls' := [(0, vR 86), (1, vI b), (2, vI fs), (3, vI tn), (4, vI what), (5, vI 0), (6, vI (manyX m b)), (7, vI 0)]) rfl ?_
                exact J87
              · skip
                refine j_aload_n rfl rfl ?_
                refine j_getR (q := 91) rfl f_X12_22 rfl (hS.lt (by decide)) (hS.k (by decide) (by decide)) (hS.r (by decide)) ?_
                refine j_iload_n rfl rfl ?_
                refine j_iald (n := 7) rfl (hS.lt (by decide)) (hS.k (by decide) (by decide)) (hS.n (by decide) (by decide)) (by omega) (by omega) (by decide) ?_
                have u76_1 := hI.a 91 (0) 12 (by decide) b.toNat
                refine j_goto (tgt := 82) rfl (by decide) ?_
                refine j_istore rfl (by decide) ?_
                refine j_iconst rfl ?_
                refine j_istore rfl (by decide) ?_
                have hk : mi m 91 b.toNat = manyX m b := by unfold manyX; first | (rw [if_pos (by omega)]; done) | (rw [if_neg (by omega)]; done)
                rw [hk]
                refine j_loc (ls' := [(0, vR 86), (1, vI b), (2, vI fs), (3, vI tn), (4, vI what), (5, vI 0), (6, vI (manyX m b)), (7, vI 0)]) rfl ?_
                exact J87
            · skip
              refine j_iconst rfl ?_
              refine j_iret rfl rfl ?_ rfl (Nat.le_refl _)
              exact ⟨by unfold besR; rw [if_neg (by omega)], by unfold besR; rw [if_neg (by omega)]; exact SameP.rf m⟩


set_option maxRecDepth 20000 in
set_option maxHeartbeats 4000000 in
theorem lp_program_42 {G : QW} {m : AM} {b : Int} {R : Except Int (PSt × List LRec)} (hS : St m) (hI0 : IM m) (hb0 : 0 ≤ b) (hb5 : b ≤ 5) : ∀ (x : Nat) (N : AM) (a : Int) (w : List (Nat × Int)) (rs : List LRec), FG m N → IM N → PS N a 0 w → RowsAll N rs → mi N 91 6 = rs.length → rs.length + x = 13 → 1 ≤ rs.length → rs.length ≤ 12 → 0 ≤ a → a ≤ mi m 86 16 → (w.length : Int) ≤ a → (if chR m a = 59 then prL (chR m) true (mi m 86 16) x rs.length (a + 1, w) rs else if a < mi m 86 16 then .error a else .ok ((a, w), rs)) = R → qJ G mX12_program { frames := 45, cells := 0, slots := 0, locals := 60 * 45 } (qF G (PGR m b R) 0 0) 42 [(0, vR 86), (1, vI b)] [] N 0 0 := by
  have htp := hI0.s 86 16 0 160 (by decide)
  have hRB := RBn 45
  intro x
  induction x with
  | zero => intro N a w rs _ _ _ _ _ h1 _ h2 _ _ _ _; exact absurd h1 (by omega)
  | succ x ih =>
    intro N a w rs hG hI hP hA h6 hx hl1 hl2 ha0 ha1 hlw hE
    have e18N := hP.2.1
    refine j_aload_n rfl rfl ?_
    refine j_getI rfl f_X12_213 rfl ((hG.st hS).lt (by decide)) ((hG.st hS).k (by decide) (by decide)) ?_
    have u43_1 := mi_rng N 86 18
    refine j_if_ge (tgt := 65) rfl (by decide) (by omega) (by omega) (fun hb46_1 => ?_) (fun hb46_1 => ?_)
    · skip
      exfalso; omega
    · skip
      refine j_aload_n rfl rfl ?_
      refine j_bipush rfl (by decide) ?_
      refine j_callV (ci := 12) rfl okX12_isNext c_X12_261 (ct_X12_isNextU (hG.st hS) hI hP (by omega) (by rw [show mi N 86 16 = mi m 86 16 from hG.cell (by decide) (by decide) (by decide) (by decide)]; omega) (by omega) (by decide)) rfl rfl ((hG.st hS).lt (by decide)) ((hG.st hS).k (by decide) (by decide)) (by decide) rfl (Nat.le_of_ble_eq_true rfl) (RB.call hRB (by omega) (by decide)) ⟨Nat.le_refl _, Nat.le_refl _⟩ ?_
      rintro vq N1 ⟨e1, qf, qi, qp⟩
      rw [hG.ch] at e1 qp
      rw [e1]
      clear e1
      simp only [Option.toList_some, Option.toList_none, List.cons_append, List.nil_append]
      have hG1 := hG.fp qf
      have hA1 := hA.fp qf
      have h61 : mi N1 91 6 = rs.length := (qf.cell (by decide) (by decide)).trans h6
      have kx := kxt_c (chR m) a 59
      have kl := fun (z : chR m a = 59) => lt_end (chR_end m) (a := a) (by omega)
      have e17 := qp.1
      have e18 := qp.2.1
      have e16 : mi N1 86 16 = mi m 86 16 := hG1.cell (by decide) (by decide) (by decide) (by decide)
      refine j_if_eq (tgt := 65) rfl (by decide) (by omega) (by omega) (fun hb55_1 => ?_) (fun hb55_1 => ?_)
      · skip
        refine j_aload_n rfl rfl ?_
        refine j_getI rfl f_X12_213 rfl ((hG1.st hS).lt (by decide)) ((hG1.st hS).k (by decide) (by decide)) ?_
        have u66_1 := mi_rng N1 86 18
        refine j_if_ge (tgt := 87) rfl (by decide) (by omega) (by omega) (fun hb69_1 => ?_) (fun hb69_1 => ?_)
        · skip
          refine j_loc (ls' := [(0, vR 86), (1, vI b)]) rfl ?_
          have hz : a + kxt (chR m) a 59 = a := by omega
          rw [hz] at qp
          rw [if_neg (by omega)] at hE
          rw [if_neg (by omega)] at hE
          subst hE
          exact lp_program_87O (z := ((a, w), rs)) hS hG1 qi qp hA1 h61 hb0 hb5 (by dsimp only; omega)
        · skip
          refine j_aload_n rfl rfl ?_
          refine j_getI rfl f_X12_210 rfl ((hG1.st hS).lt (by decide)) ((hG1.st hS).k (by decide) (by decide)) ?_
          have u73_1 := mi_rng N1 86 17
          refine j_aload_n rfl rfl ?_
          refine j_getI rfl f_X12_207 rfl ((hG1.st hS).lt (by decide)) ((hG1.st hS).k (by decide) (by decide)) ?_
          have u77_1 := qi.s 86 16 (0) 160 (by decide)
          refine j_icmp_ge (tgt := 87) rfl (by decide) (by omega) (by omega) (by omega) (by omega) (fun hb80_1 => ?_) (fun hb80_1 => ?_)
          · skip
            refine j_loc (ls' := [(0, vR 86), (1, vI b)]) rfl ?_
            have hz : a + kxt (chR m) a 59 = a := by omega
            rw [hz] at qp
            rw [if_neg (by omega)] at hE
            rw [if_neg (by omega)] at hE
            subst hE
            exact lp_program_87O (z := ((a, w), rs)) hS hG1 qi qp hA1 h61 hb0 hb5 (by dsimp only; omega)
          · skip
            refine j_aload_n rfl rfl ?_
            refine j_callV (ci := 12) rfl okX12_wrong c_X12_222 (ct_X12_wrong (hG1.st hS) qi) rfl rfl ((hG1.st hS).lt (by decide)) ((hG1.st hS).k (by decide) (by decide)) (by decide) rfl (Nat.le_of_ble_eq_true rfl) (RB.call hRB (by omega) (by decide)) ⟨Nat.le_refl _, Nat.le_refl _⟩ ?_
            rintro vq mq ⟨e1, e2⟩
            have hz3 : mi N1 86 17 = a := by omega
            rw [if_neg (by omega), hz3] at e2
            rw [e1, e2]
            clear e1 e2
            simp only [Option.toList_some, Option.toList_none, List.nil_append]
            have hGw := hG1.fp ((FP.rf N1).one (o := 86) (k := 18) (Or.inr (by omega)) a)
            have hIw := qi.read (k := 18) (by omega) a
            have ew : mi (si N1 86 18 a) 86 18 = a := mi_si_same _ _ _ (by omega) (by omega)
            refine j_loc (ls' := [(0, vR 86), (1, vI b)]) rfl ?_
            have hz : a + kxt (chR m) a 59 = a := by omega
            rw [hz] at qp
            rw [if_neg (by omega)] at hE
            rw [if_pos (by omega)] at hE
            subst hE
            exact lp_program_87E hS hGw hIw ew (by omega)
      · skip
        have hz : a + kxt (chR m) a 59 = a + 1 := by omega
        rw [hz] at qp
        rw [if_pos (by omega)] at hE
        by_cases h12 : (rs.length : Int) = 12
        · simp only [prL] at hE
          rw [if_pos h12] at hE
          refine j_aload_n rfl rfl ?_
          refine j_callV (ci := 12) rfl okX12_readLine c_X12_264 (ct_X12_readLine12 (hG1.st hS) qi qp (h61.trans h12) (by omega) (by omega) (by omega)) rfl rfl ((hG1.st hS).lt (by decide)) ((hG1.st hS).k (by decide) (by decide)) (by decide) rfl (Nat.le_of_ble_eq_true rfl) (RB.call hRB (by omega) (by decide)) ⟨Nat.le_refl _, Nat.le_refl _⟩ ?_
          rintro vq mq ⟨e1, e2⟩
          rw [e1, e2]
          clear e1 e2
          simp only [Option.toList_some, Option.toList_none, List.nil_append]
          have hG2 := hG1.fp ((FP.rf N1).one (o := 86) (k := 18) (Or.inr (by omega)) (a + 1))
          have hI2 := qi.read (k := 18) (by omega) (a + 1)
          have e28 : mi (si N1 86 18 (a + 1)) 86 18 = a + 1 := mi_si_same _ _ _ (by omega) (by omega)
          refine j_goto (tgt := 42) rfl (by decide) ?_
          have e18N := hP.2.1
          refine j_aload_n rfl rfl ?_
          refine j_getI rfl f_X12_213 rfl ((hG2.st hS).lt (by decide)) ((hG2.st hS).k (by decide) (by decide)) ?_
          have u43_2 := mi_rng (si N1 86 18 (a + 1)) 86 18
          refine j_if_ge (tgt := 65) rfl (by decide) (by omega) (by omega) (fun hb46_2 => ?_) (fun hb46_2 => ?_)
          · skip
            refine j_aload_n rfl rfl ?_
            refine j_getI rfl f_X12_213 rfl ((hG2.st hS).lt (by decide)) ((hG2.st hS).k (by decide) (by decide)) ?_
            have u66_2 := mi_rng (si N1 86 18 (a + 1)) 86 18
            refine j_if_ge (tgt := 87) rfl (by decide) (by omega) (by omega) (fun hb69_2 => ?_) (fun hb69_2 => ?_)
            · skip
              refine j_loc (ls' := [(0, vR 86), (1, vI b)]) rfl ?_
              subst hE
              exact lp_program_87E hS hG2 hI2 e28 (by omega)
            · skip
              exfalso; omega
          · skip
            exfalso; omega
        · simp only [prL] at hE
          rw [if_neg h12] at hE
          refine j_aload_n rfl rfl ?_
          refine j_callV (ci := 12) rfl okX12_readLine c_X12_264 (ct_X12_readLine (R := pLine (chR m) true (a + 1, w)) (hG1.st hS) qi (by omega) (by omega) qp h61 (by omega) (by omega) (by omega) (by rw [hG1.ch])) rfl rfl ((hG1.st hS).lt (by decide)) ((hG1.st hS).k (by decide) (by decide)) (by decide) rfl (Nat.le_of_ble_eq_true rfl) (RB.call hRB (by omega) (by decide)) ⟨Nat.le_refl _, Nat.le_refl _⟩ ?_
          rintro vq N2 ⟨e1, hQ⟩
          rw [e1]
          clear e1
          simp only [Option.toList_some, Option.toList_none, List.nil_append]
          have hpg := pLine_good (chR_end m) true (a := a + 1) (w := w) (by omega) (by omega)
          cases hres : pLine (chR m) true (a + 1, w) with
          | error p =>
            rw [hres] at hQ hE
            dsimp only at hE
            obtain ⟨qf2, hI2, e28, hp0⟩ := hQ
            have hG2 := hG1.fl (by omega) qf2
            refine j_goto (tgt := 42) rfl (by decide) ?_
            have e18N := hP.2.1
            refine j_aload_n rfl rfl ?_
            refine j_getI rfl f_X12_213 rfl ((hG2.st hS).lt (by decide)) ((hG2.st hS).k (by decide) (by decide)) ?_
            have u43_3 := mi_rng N2 86 18
            refine j_if_ge (tgt := 65) rfl (by decide) (by omega) (by omega) (fun hb46_3 => ?_) (fun hb46_3 => ?_)
            · skip
              refine j_aload_n rfl rfl ?_
              refine j_getI rfl f_X12_213 rfl ((hG2.st hS).lt (by decide)) ((hG2.st hS).k (by decide) (by decide)) ?_
              have u66_3 := mi_rng N2 86 18
              refine j_if_ge (tgt := 87) rfl (by decide) (by omega) (by omega) (fun hb69_3 => ?_) (fun hb69_3 => ?_)
              · skip
                refine j_loc (ls' := [(0, vR 86), (1, vI b)]) rfl ?_
                subst hE
                exact lp_program_87E hS hG2 hI2 e28 hp0
              · skip
                exfalso; omega
            · skip
              exfalso; omega
          | ok z =>
            rw [hres] at hQ hE
            dsimp only at hE
            obtain ⟨qf2, hI2, hP2, h62, hR2, h97⟩ := hQ
            have hG2 := hG1.fl (by omega) qf2
            obtain ⟨g1, g2, w1, w2, g3, g4, -⟩ := hpg.1 z hres
            have g5 : (z.1.2.length : Int) ≤ z.1.1 := by rw [g3, List.append_assoc, List.length_append]; omega
            have hA2 := hA1.more qf2 (r := z.2) ⟨hR2, h97⟩
            refine j_goto (tgt := 42) rfl (by decide) ?_
            refine j_loc (ls' := [(0, vR 86), (1, vI b)]) rfl ?_
            have hln : (rs ++ [z.2]).length = rs.length + 1 := by rw [List.length_append]; rfl
            refine ih N2 z.1.1 z.1.2 (rs ++ [z.2]) hG2 hI2 hP2 hA2 (by rw [h62, hln]; omega) (by rw [hln]; omega) (by rw [hln]; omega) (by rw [hln]; omega) (by omega) g2 g5 ?_
            rw [hln, show (((rs.length + 1 : Nat)) : Int) = (rs.length : Int) + 1 by omega]
            exact hE

/-- program() of the reference: nothing (no such box), or how the text is read -/
def proR (m : AM) (b : Int) : Option (Except Int (PSt × List LRec)) := if 0 ≤ b ∧ b < mi m 86 1 then some (prX (chR m) true (mi m 86 16)) else none
def PGX (m : AM) (b : Int) (R : Option (Except Int (PSt × List LRec))) : Option Vl → AM → Prop := match R with
  | none => fun r m' => r = some (vI (-1)) ∧ m' = m
  | some R => PGR m b R

set_option maxRecDepth 20000 in
set_option maxHeartbeats 4000000 in
theorem ct_X12_program {G : QW} {m : AM} {b : Int} (hS : St m) (hI : IM m) (hb1 : -2147483648 ≤ b) (hb2 : b < 2147483648) : qM G mX12_program 45 0 0 [vR 86, vI b] m (PGX m b (proR m b)) := by
  refine qM.intro okX12_program (Nat.le_of_ble_eq_true rfl) ?_
  have htp := hI.s 86 16 0 160 (by decide)
  have hRB := RBn 45
  refine j_aload_n rfl rfl ?_
  refine j_iload_n rfl rfl ?_
  refine j_callV (ci := 12) rfl okX12_isBox c_X12_198 (ct_X12_isBox hS hI (by omega) (by omega)) rfl rfl (hS.lt (by decide)) (hS.k (by decide) (by decide)) (by decide) rfl (Nat.le_of_ble_eq_true rfl) (RB.call hRB (by omega) (by decide)) ⟨Nat.le_refl _, Nat.le_refl _⟩ ?_
  rintro vq mq ⟨e1, e2⟩
  rw [e1, e2]
  clear e1 e2
  simp only [Option.toList_some, Option.toList_none, List.cons_append, List.nil_append]
  have w1 := hI.s 86 1 (0) 6 (by decide)
  refine j_bif_ne (tgt := 10) rfl (by decide) (fun hb5_1 => ?_) (fun hb5_1 => ?_)
  · skip
    have hb0 : 0 ≤ b := by omega
    have hb5 : b ≤ 5 := by omega
    refine j_aload_n rfl rfl ?_
    refine j_iconst rfl ?_
    refine j_putI rfl f_X12_210 rfl (hS.lt (by decide)) (hS.k (by decide) (by decide)) ?_
    refine j_aload_n rfl rfl ?_
    refine j_iconst rfl ?_
    refine j_putI rfl f_X12_213 rfl (hS.lt (by decide)) (hS.k (by decide) (by decide)) ?_
    refine j_aload_n rfl rfl ?_
    refine j_iconst rfl ?_
    refine j_putI rfl f_X12_219 rfl (hS.lt (by decide)) (hS.k (by decide) (by decide)) ?_
    refine j_aload_n rfl rfl ?_
    refine j_iconst rfl ?_
    refine j_putI rfl f_X12_216 rfl (hS.lt (by decide)) (hS.k (by decide) (by decide)) ?_
    refine j_aload_n rfl rfl ?_
    refine j_getR (q := 91) rfl f_X12_22 rfl (hS.lt (by decide)) (hS.k (by decide) (by decide)) (hS.r (by decide)) ?_
    refine j_bipush rfl (by decide) ?_
    refine j_iconst rfl ?_
    refine j_iast (n := 7) rfl (hS.lt (by decide)) (hS.k (by decide) (by decide)) (hS.n (by decide) (by decide)) (by omega) (by omega) (by first | decide | omega) ?_
    have hGi : FG m (si (si (si (si (si m 86 17 0) 86 18 (-1)) 86 19 0) 86 20 0) 91 (6 : Int).toNat 0) := ⟨rfl, fun o j a b c d => by
      show (if o = 91 ∧ j = 6 then 0 else if o = 86 ∧ j = 20 then 0 else if o = 86 ∧ j = 19 then 0 else if o = 86 ∧ j = 18 then -1 else if o = 86 ∧ j = 17 then 0 else m.1 o j) = m.1 o j
      rw [if_neg (by omega), if_neg (by omega), if_neg (by omega), if_neg (by omega), if_neg (by omega)]⟩
    have hIi : IM (si (si (si (si (si m 86 17 0) 86 18 (-1)) 86 19 0) 86 20 0) 91 (6 : Int).toNat 0) := ((((hI.read (k := 17) (by omega) 0).read (k := 18) (by omega) (-1)).read (k := 19) (by omega) 0).read (k := 20) (by omega) 0).line _ 0 12 (by simp) (by decide)
    have h6i : mi (si (si (si (si (si m 86 17 0) 86 18 (-1)) 86 19 0) 86 20 0) 91 (6 : Int).toNat 0) 91 6 = 0 := mi_si_same _ _ _ (by decide) (by decide)
    have hPi : PS (si (si (si (si (si m 86 17 0) 86 18 (-1)) 86 19 0) 86 20 0) 91 (6 : Int).toNat 0) 0 0 [] := by
      refine PS.row ?_ (by omega) _ _
      refine ⟨?_, ?_, ?_, ?_, fun i hi => absurd hi (Nat.not_lt_zero _)⟩
      · rw [mi_si_ne _ _ (by decide), mi_si_ne _ _ (by decide), mi_si_ne _ _ (by decide), mi_si_same _ _ _ (by decide) (by decide)]
      · rw [mi_si_ne _ _ (by decide), mi_si_ne _ _ (by decide), mi_si_same _ _ _ (by decide) (by decide)]
      · rw [mi_si_ne _ _ (by decide), mi_si_same _ _ _ (by decide) (by decide)]
      · rw [mi_si_same _ _ _ (by decide) (by decide)]; rfl
    have e16 : mi (si (si (si (si (si m 86 17 0) 86 18 (-1)) 86 19 0) 86 20 0) 91 (6 : Int).toNat 0) 86 16 = mi m 86 16 := hGi.cell (by decide) (by decide) (by decide) (by decide)
    generalize (si (si (si (si (si m 86 17 0) 86 18 (-1)) 86 19 0) 86 20 0) 91 (6 : Int).toNat 0) = Ni at hGi hIi h6i hPi e16 ⊢
    refine j_aload_n rfl rfl ?_
  
    refine j_callV (ci := 12) rfl okX12_readLine c_X12_264 (ct_X12_readLine (l := 0) (a := 0) (w := []) (R := pLine (chR m) true (0, [])) (hGi.st hS) hIi (Int.le_refl 0) (by decide) hPi h6i (Int.le_refl 0) (by rw [e16]; omega) (Int.le_refl 0) (by rw [hGi.ch])) rfl rfl ((hGi.st hS).lt (by decide)) ((hGi.st hS).k (by decide) (by decide)) (by decide) rfl (Nat.le_of_ble_eq_true rfl) (RB.call hRB (by omega) (by decide)) ⟨Nat.le_refl _, Nat.le_refl _⟩ ?_
    rintro vq N2 ⟨e1, hQ⟩
    rw [e1]
    clear e1
    simp only [Option.toList_some, Option.toList_none, List.nil_append]
    have hpg := pLine_good (chR_end m) true (a := 0) (w := []) (Int.le_refl 0) htp.1
    have hE : proR m b = some (prX (chR m) true (mi m 86 16)) := by unfold proR; rw [if_pos (by omega)]
    rw [hE]
    show qJ G mX12_program _ (qF G (PGR m b (prX (chR m) true (mi m 86 16))) 0 0) _ _ _ _ _ _
    cases hres : pLine (chR m) true (0, []) with
    | error p =>
      rw [hres] at hQ
      have hX : prX (chR m) true (mi m 86 16) = .error p := by unfold prX; simp only [prL]; rw [if_neg (by decide), hres]
      rw [hX]
      obtain ⟨qf2, hI2, e28, hp0⟩ := hQ
      have hG2 := hGi.fl (Int.le_refl 0) qf2
      refine j_aload_n rfl rfl ?_
      refine j_getI rfl f_X12_213 rfl ((hG2.st hS).lt (by decide)) ((hG2.st hS).k (by decide) (by decide)) ?_
      have u43_1 := mi_rng N2 86 18
      refine j_if_ge (tgt := 65) rfl (by decide) (by omega) (by omega) (fun hb46_1 => ?_) (fun hb46_1 => ?_)
      · skip
        refine j_aload_n rfl rfl ?_
        refine j_getI rfl f_X12_213 rfl ((hG2.st hS).lt (by decide)) ((hG2.st hS).k (by decide) (by decide)) ?_
        have u66_1 := mi_rng N2 86 18
        refine j_if_ge (tgt := 87) rfl (by decide) (by omega) (by omega) (fun hb69_1 => ?_) (fun hb69_1 => ?_)
        · skip
          refine j_loc (ls' := [(0, vR 86), (1, vI b)]) rfl ?_
          exact lp_program_87E hS hG2 hI2 e28 hp0
        · skip
          exfalso; omega
      · skip
        exfalso; omega
    | ok z =>
      rw [hres] at hQ
      obtain ⟨qf2, hI2, hP2, h62, hR2, h97⟩ := hQ
      have hG2 := hGi.fl (Int.le_refl 0) qf2
      obtain ⟨g1, g2, w1, w2, g3, g4, -⟩ := hpg.1 z hres
      have g5 : (z.1.2.length : Int) ≤ z.1.1 := by rw [g3, List.append_assoc, List.length_append]; show ((0 + (w1 ++ w2).length : Nat) : Int) ≤ _; omega
      have hA2 : RowsAll N2 [z.2] := by
        intro k hk
        have hk0 : k = 0 := by have : k < 1 := hk; omega
        subst hk0
        exact ⟨hR2, h97⟩
      refine j_loc (ls' := [(0, vR 86), (1, vI b)]) rfl ?_
      refine lp_program_42 hS hI hb0 hb5 12 N2 z.1.1 z.1.2 [z.2] hG2 hI2 hP2 hA2 h62 rfl (Nat.le_refl 1) (show (1 : Nat) ≤ 12 by decide) (by omega) g2 g5 ?_
      unfold prX
      conv => rhs; rw [prL, if_neg (by decide), hres]
      rfl
  · skip
    refine j_iconst rfl ?_
    refine j_iret rfl rfl ?_ rfl (Nat.le_refl _)
    have hE : proR m b = none := by unfold proR; rw [if_neg (by omega)]
    rw [hE]
    exact ⟨rfl, rfl⟩


theorem zwLn_r (W : ZW) (C : ZC) (e b l : Int) (S : ZS) : 0 ≤ (zwLn W C e b l S).1 ∧ (zwLn W C e b l S).1 ≤ 4 := by
  have h1 := zwE_r W C S.sl e b (W.at3 b l).1 (W.at3 b l).2.1
  have h2 := zwE_r W C S.sl e b (W.at3 b l).2.1 (W.at3 b l).2.2
  have hB : 0 ≤ (zwB W C e b l S).1 ∧ (zwB W C e b l S).1 ≤ 4 := by
    unfold zwB zwLand
    (repeat' split) <;> (dsimp only; omega)
  unfold zwLn
  (repeat' split) <;> first | exact hB | (dsimp only; omega)

set_option maxRecDepth 20000 in
set_option maxHeartbeats 4000000 in
theorem lp_doBox_192 {G : QW} {m : AM} {o : Nat} {W : ZW} {b : Int} {C : ZC} {g : Prop} {E : Int × Int × ZS} (hG : GT m o W) (hb : 0 ≤ b ∧ b < W.nb) {l p i : Int} {N : AM} {S : ZS} (h : LI m o (bx m b) (pg m b) C g N S) (hp : 0 ≤ p ∧ p ≤ 4) (hi : 0 ≤ i ∧ i ≤ 11) (hE : (p, i, S) = E) : qJ G mX10_doBox { frames := 3, cells := 0, slots := 0, locals := 60 * 3 } (qF G (fun r N2 => r = none ∧ LI m o (bx m b) (pg m b) C g N2 (if E.1 = 0 then E.2.2 else zwFail b C.t E.2.1 E.1 E.2.2)) 0 0) 192 [(0, vR 17), (1, vR (bx m b)), (2, vI p), (3, vI i), (4, vI l)] [] N 0 0 := by
  subst hE
  have hM := h.rk hG hb
  have hS := hM.1
  have hB := hG.2.2.2.2 b hb.1 hb.2
  have hnb := hG.2.2.2.1.1
  have hb5 : b ≤ 5 := by omega
  have hx0 : mi N (bx m b) 0 = b := (h.1.cel (nt145 hG.2.1 hB.2.1.1) 0).trans hB.2.2.1.1
  have htt := h.2.2.2.2.1.2.2.2.2
  rw [h.2.2.2.2.1.1.2.2.2] at htt
  refine j_iload_n rfl rfl ?_
  refine j_if_eq (tgt := 213) rfl (by decide) (by omega) (by omega) (fun hb193_1 => ?_) (fun hb193_1 => ?_)
  · skip
    refine j_vret rfl rfl ?_ rfl (Nat.le_refl _)
    exact ⟨rfl, by rw [if_pos (by omega)]; exact h⟩
  · skip
    refine j_aload_n rfl rfl ?_
    refine j_getR (q := o) rfl f_X10_25 rfl (hS.lt (by decide)) (hS.k (by decide) (by decide)) hM.2.2.1.2 ?_
    refine j_aload_n rfl rfl ?_
    refine j_getI rfl f_X10_79 rfl hM.2.2.2.1.1.1 hM.2.2.2.1.1.2.1 ?_
    have u201_1 := mi_rng N (bx m b) 0
    rw [hx0]
    refine j_aload_n rfl rfl ?_
    refine j_getI rfl f_X10_29 rfl (hS.lt (by decide)) (hS.k (by decide) (by decide)) ?_
    have u205_1 := mi_rng N 17 7
    rw [h.2.2.2.2.1.1.2.2.2]
    refine j_iload_n rfl rfl ?_
    refine j_iload_n rfl rfl ?_
    refine j_callV (ci := 9) rfl okX9_fail c_X10_108 (ct_X9_fail hM.2.2.1.1 ⟨hb.1, hb5⟩ (by omega) (by omega) (by omega) (by omega) (by omega) (by omega)) rfl rfl hM.2.2.1.1.1 hM.2.2.1.1.2.1 (by decide) rfl (Nat.le_of_ble_eq_true rfl) (by decide) (by decide) ?_
    rintro vq mq ⟨e1, e2⟩
    rw [e1, e2]
    clear e1 e2
    simp only [Option.toList_some, Option.toList_none, List.cons_append, List.nil_append]
    refine j_vret rfl rfl ?_ rfl (Nat.le_refl _)
    exact ⟨rfl, by rw [if_neg (by omega)]; exact h.fail hG.2.1 ⟨hb.1, hb5⟩ (by omega) (by omega) (by omega)⟩

set_option maxRecDepth 20000 in
set_option maxHeartbeats 4000000 in
theorem lp_doBox_20 {G : QW} {m : AM} {o : Nat} {W : ZW} {b : Int} {C : ZC} {g : Prop} {E : Int × Int × ZS} (hG : GT m o W) (hb : 0 ≤ b ∧ b < W.nb) : ∀ (c : Nat) (l p i : Int) (N : AM) (S : ZS), LI m o (bx m b) (pg m b) C g N S → l + c = W.nl b → 0 ≤ l → 0 ≤ p ∧ p ≤ 4 → 0 ≤ i ∧ i ≤ 11 → zwTk W C b c l p i S = E → qJ G mX10_doBox { frames := 3, cells := 0, slots := 0, locals := 60 * 3 } (qF G (fun r N2 => r = none ∧ LI m o (bx m b) (pg m b) C g N2 (if E.1 = 0 then E.2.2 else zwFail b C.t E.2.1 E.1 E.2.2)) 0 0) 20 [(0, vR 17), (1, vR (bx m b)), (2, vI p), (3, vI i), (4, vI l)] [] N 0 0 := by
  intro c
  induction c with
  | zero =>
    intro l p i N S h hl hl0 hp hi hE
    have hM := h.rk hG hb
    have hS := hM.1
    have hB := hG.2.2.2.2 b hb.1 hb.2
    have hnb := hG.2.2.2.1.1
    have hb5 : b ≤ 5 := by omega
    have hx0 : mi N (bx m b) 0 = b := (h.1.cel (nt145 hG.2.1 hB.2.1.1) 0).trans hB.2.2.1.1
    have hn6 : mi N (pg m b) 6 = W.nl b := (h.1.cel (nt62 hG.2.1 hB.2.1.2) 6).trans hB.2.2.2.2.2.2.1
    have hnl := (hG.2.2.2.1.2 b hb.1 hb.2).1
    refine j_iload rfl rfl ?_
    refine j_aload_n rfl rfl ?_
    refine j_getR (q := (pg m b)) rfl f_X10_67 rfl (hS.lt (by decide)) (hS.k (by decide) (by decide)) hM.2.2.2.2.1.2 ?_
    refine j_getI rfl f_X10_68 rfl hM.2.2.2.2.1.1.1 hM.2.2.2.2.1.1.2.1 ?_
    have u26_1 := mi_rng N (pg m b) 6
    rw [hn6]
    refine j_icmp_ge (tgt := 192) rfl (by decide) (by omega) (by omega) (by omega) (by omega) (fun hb29_1 => ?_) (fun hb29_1 => ?_)
    · skip
      exact lp_doBox_192 hG hb h hp hi hE
    · skip
      exfalso; omega
  | succ c ih =>
    intro l p i N S h hl hl0 hp hi hE
    have hM := h.rk hG hb
    have hS := hM.1
    have hB := hG.2.2.2.2 b hb.1 hb.2
    have hnb := hG.2.2.2.1.1
    have hb5 : b ≤ 5 := by omega
    have hx0 : mi N (bx m b) 0 = b := (h.1.cel (nt145 hG.2.1 hB.2.1.1) 0).trans hB.2.2.1.1
    have hn6 : mi N (pg m b) 6 = W.nl b := (h.1.cel (nt62 hG.2.1 hB.2.1.2) 6).trans hB.2.2.2.2.2.2.1
    have hnl := (hG.2.2.2.1.2 b hb.1 hb.2).1
    have hA := h.1.agL hG.2.1 hB.2.1.2 (hB.2.2.2.2.2.2.2 l hl0 (by omega))
    have hca := and_one (z_ishr (mi N (pg m b) 7) l)
    rw [hA.1] at hca
    have hca2 : W.ca b l = 0 ∨ W.ca b l = 1 := by split at hca <;> omega
    clear hca
    unfold zwTk at hE
    refine j_iload rfl rfl ?_
    refine j_aload_n rfl rfl ?_
    refine j_getR (q := (pg m b)) rfl f_X10_67 rfl (hS.lt (by decide)) (hS.k (by decide) (by decide)) hM.2.2.2.2.1.2 ?_
    refine j_getI rfl f_X10_68 rfl hM.2.2.2.2.1.1.1 hM.2.2.2.2.1.1.2.1 ?_
    have u26_1 := mi_rng N (pg m b) 6
    rw [hn6]
    refine j_icmp_ge (tgt := 192) rfl (by decide) (by omega) (by omega) (by omega) (by omega) (fun hb29_1 => ?_) (fun hb29_1 => ?_)
    · skip
      exfalso; omega
    · skip
      refine j_aload_n rfl rfl ?_
      refine j_getR (q := (pg m b)) rfl f_X10_67 rfl (hS.lt (by decide)) (hS.k (by decide) (by decide)) hM.2.2.2.2.1.2 ?_
      refine j_getI rfl f_X10_73 rfl hM.2.2.2.2.1.1.1 hM.2.2.2.2.1.1.2.1 ?_
      have u36_1 := mi_rng N (pg m b) 7
      refine j_iload rfl rfl ?_
      refine j_ishr rfl ?_
      have z41_1 := z_ishr_rng (mi N (pg m b) 7) l
      refine j_iconst rfl ?_
      refine j_iand rfl ?_
      have z43_1 := z_iand_rng (z_ishr (mi N (pg m b) 7) l) 1
      rw [hA.1]
      refine j_iconst rfl ?_
      refine j_icmp_ne (tgt := 52) rfl (by decide) (by omega) (by omega) (by omega) (by omega) (fun hb45_1 => ?_) (fun hb45_1 => ?_)
      · skip
        refine j_iconst rfl ?_
        refine j_istore rfl (by decide) ?_
        refine j_iload rfl rfl ?_
        refine j_iload_n rfl rfl ?_
        refine j_if_eq (tgt := 65) rfl (by decide) (by omega) (by omega) (fun hb58_1 => ?_) (fun hb58_1 => ?_)
        · skip
          refine j_iconst rfl ?_
          refine j_icmp_eq (tgt := 72) rfl (by decide) (by omega) (by omega) (by omega) (by omega) (fun hb66_1 => ?_) (fun hb66_1 => ?_)
          · skip
            refine j_loc (ls' := [(0, vR 17), (1, vR (bx m b)), (2, vI p), (3, vI i), (4, vI l), (5, vI 0)]) rfl ?_
            refine lp_doBox_72 (ca := 0) hG hb ⟨hl0, by omega⟩ h hp (by omega) (fun N2 a1 a2 => ?_)
            have hM := a1.rk hG hb
            have hS := hM.1
            refine j_aload_n rfl rfl ?_
            refine j_getI rfl f_X10_84 rfl (hS.lt (by decide)) (hS.k (by decide) (by decide)) ?_
            have u179_1 := mi_rng N2 17 9
            rw [a2]
            refine j_istore_n rfl (by decide) ?_
            refine j_iload rfl rfl ?_
            refine j_istore_n rfl (by decide) ?_
            refine j_iinc rfl rfl (by decide) ?_
            refine j_goto (tgt := 20) rfl (by decide) ?_
            refine j_loc (ls' := [(0, vR 17), (1, vR (bx m b)), (2, vI (zwLn W C p b l (zwCg b p S)).1), (3, vI l), (4, vI (l + 1))]) rfl ?_
            exact ih (l + 1) _ l N2 _ a1 (by omega) (by omega) (zwLn_r _ _ _ _ _ _) (by omega) (by rw [if_pos (by split <;> omega)] at hE; exact hE)
          · skip
            exact absurd hb66_1 (by decide)
        · skip
          refine j_iconst rfl ?_
          refine j_goto (tgt := 66) rfl (by decide) ?_
          refine j_icmp_eq (tgt := 72) rfl (by decide) (by omega) (by omega) (by omega) (by omega) (fun hb66_2 => ?_) (fun hb66_2 => ?_)
          · skip
            exact absurd hb66_2 (by decide)
          · skip
            refine j_goto (tgt := 186) rfl (by decide) ?_
            refine j_iinc rfl rfl (by decide) ?_
            refine j_goto (tgt := 20) rfl (by decide) ?_
            refine j_loc (ls' := [(0, vR 17), (1, vR (bx m b)), (2, vI p), (3, vI i), (4, vI (l + 1))]) rfl ?_
            exact ih (l + 1) p i N S h (by omega) (by omega) hp hi (by rw [if_neg (by split <;> omega)] at hE; exact hE)
      · skip
        refine j_iconst rfl ?_
        refine j_goto (tgt := 53) rfl (by decide) ?_
        refine j_istore rfl (by decide) ?_
        refine j_iload rfl rfl ?_
        refine j_iload_n rfl rfl ?_
        refine j_if_eq (tgt := 65) rfl (by decide) (by omega) (by omega) (fun hb58_2 => ?_) (fun hb58_2 => ?_)
        · skip
          refine j_iconst rfl ?_
          refine j_icmp_eq (tgt := 72) rfl (by decide) (by omega) (by omega) (by omega) (by omega) (fun hb66_3 => ?_) (fun hb66_3 => ?_)
          · skip
            exact absurd hb66_3 (by decide)
          · skip
            refine j_goto (tgt := 186) rfl (by decide) ?_
            refine j_iinc rfl rfl (by decide) ?_
            refine j_goto (tgt := 20) rfl (by decide) ?_
            refine j_loc (ls' := [(0, vR 17), (1, vR (bx m b)), (2, vI p), (3, vI i), (4, vI (l + 1))]) rfl ?_
            exact ih (l + 1) p i N S h (by omega) (by omega) hp hi (by rw [if_neg (by split <;> omega)] at hE; exact hE)
        · skip
          refine j_iconst rfl ?_
          refine j_goto (tgt := 66) rfl (by decide) ?_
          refine j_icmp_eq (tgt := 72) rfl (by decide) (by omega) (by omega) (by omega) (by omega) (fun hb66_4 => ?_) (fun hb66_4 => ?_)
          · skip
            refine j_loc (ls' := [(0, vR 17), (1, vR (bx m b)), (2, vI p), (3, vI i), (4, vI l), (5, vI 1)]) rfl ?_
            refine lp_doBox_72 (ca := 1) hG hb ⟨hl0, by omega⟩ h hp (by omega) (fun N2 a1 a2 => ?_)
            have hM := a1.rk hG hb
            have hS := hM.1
            refine j_aload_n rfl rfl ?_
            refine j_getI rfl f_X10_84 rfl (hS.lt (by decide)) (hS.k (by decide) (by decide)) ?_
            have u179_2 := mi_rng N2 17 9
            rw [a2]
            refine j_istore_n rfl (by decide) ?_
            refine j_iload rfl rfl ?_
            refine j_istore_n rfl (by decide) ?_
            refine j_iinc rfl rfl (by decide) ?_
            refine j_goto (tgt := 20) rfl (by decide) ?_
            refine j_loc (ls' := [(0, vR 17), (1, vR (bx m b)), (2, vI (zwLn W C p b l (zwCg b p S)).1), (3, vI l), (4, vI (l + 1))]) rfl ?_
            exact ih (l + 1) _ l N2 _ a1 (by omega) (by omega) (zwLn_r _ _ _ _ _ _) (by omega) (by rw [if_pos (by split <;> omega)] at hE; exact hE)
          · skip
            exact absurd hb66_4 (by decide)

set_option maxRecDepth 20000 in
set_option maxHeartbeats 4000000 in
/-- one box does its tick at the class -/
theorem ct_doBoxK {G : QW} {m : AM} {o : Nat} {W : ZW} {b : Int} {C : ZC} {g : Prop} {S : ZS} (hG : GT m o W) (hb : 0 ≤ b ∧ b < W.nb) (hI : IM m) (hs : mr m 17 4 = some o) (hR : RC m o) (hC : CT m C) (h8 : 0 ≤ mi m 17 8 ∧ mi m 17 8 ≤ 100) (hJ : JC m o S) (hF : g → JF m o S) : qM G mX10_doBox 3 0 0 [vR 17, vR (bx m b)] m (fun r N => r = none ∧ ∃ x p, LI m o x p C g N (zwBx W C b S)) := by
  have hS := hG.1
  have hB := hG.2.2.2.2 b hb.1 hb.2
  have hnl := (hG.2.2.2.1.2 b hb.1 hb.2).1
  have hLI : LI m o (bx m b) (pg m b) C g (sr (sr m 17 5 (some (bx m b))) 17 6 (some (pg m b))) S := ⟨((TF.rf o m).ref (by decide) _).ref (by decide) _, hI, ⟨hs, rfl, rfl⟩, hR, hC, h8, hJ, hF⟩
  refine qM.mono (Rp := fun r N2 => r = none ∧ LI m o (bx m b) (pg m b) C g N2 (if (zwTk W C b (W.nl b).toNat 0 0 0 S).1 = 0 then (zwTk W C b (W.nl b).toNat 0 0 0 S).2.2 else zwFail b C.t (zwTk W C b (W.nl b).toNat 0 0 0 S).2.1 (zwTk W C b (W.nl b).toNat 0 0 0 S).1 (zwTk W C b (W.nl b).toNat 0 0 0 S).2.2)) ?_ (fun r N h => ⟨h.1, _, _, h.2⟩)
  refine qM.intro okX10_doBox (Nat.le_of_ble_eq_true rfl) ?_
  refine j_aload_n rfl rfl ?_
  refine j_aload_n rfl rfl ?_
  refine j_putR rfl f_X10_57 (fun _ => ⟨rfl, rfl⟩) rfl (hS.lt (by decide)) (hS.k (by decide) (by decide)) ?_
  refine j_aload_n rfl rfl ?_
  refine j_aload_n rfl rfl ?_
  refine j_getR (q := (pg m b)) rfl f_X10_61 rfl hB.1.2.1.1 hB.1.2.1.2.1 (by rw [show mr (sr m 17 5 (some (bx m b))) (bx m b) 4 = mr m (bx m b) 4 from if_neg (fun q => absurd q.2 (by decide))]; exact hB.1.2.2.1) ?_
  refine j_putR rfl f_X10_67 (fun _ => ⟨rfl, rfl⟩) rfl (hS.lt (by decide)) (hS.k (by decide) (by decide)) ?_
  refine j_iconst rfl ?_
  refine j_istore_n rfl (by decide) ?_
  refine j_iconst rfl ?_
  refine j_istore_n rfl (by decide) ?_
  refine j_iconst rfl ?_
  refine j_istore rfl (by decide) ?_
  refine j_loc (ls' := [(0, vR 17), (1, vR (bx m b)), (2, vI 0), (3, vI 0), (4, vI 0)]) rfl ?_
  exact lp_doBox_20 hG hb (W.nl b).toNat 0 0 0 _ S (hLI) (by omega) (by decide) (by decide) (by decide) rfl


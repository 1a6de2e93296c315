theorem Snd.keep {m N K : AM} {b fs n : Int} (h : Snd m N b fs n) (e : ∀ c j : Nat, 59 ≤ c → c ≤ 61 → mi K c j = mi N c j) : Snd m K b fs n := by
  unfold Snd
  rw [e 59 2 (by decide) (by decide)]
  refine ⟨h.1, fun i hi x x0 x1 x2 x3 => ?_⟩
  rw [e 61 i (by decide) (by decide), e 60 i (by decide) (by decide)] at x3
  exact h.2 i hi x x0 x1 x2 x3
theorem Snd.note {m K : AM} {b fs n s f : Int} (h : Snd m K b fs n) (hW : (wN m).ok) (hb : 0 ≤ b ∧ b ≤ 5) (hbn : b < (wN m).nb) (hs0 : 0 ≤ s ∧ s < 256) (hsf : z_iand s (z_ixor (freC m b) (-1)) = 0) (hf : 0 ≤ f ∧ f < mi m 0 17 ∧ z_iand (z_ishr fs f) 1 ≠ 0) (hJ : JC K 40 (zwFly (Wst m b s) (Fm m f) n (z_ishl 1 b))) (hd : (zwFly (Wst m b s) (Fm m f) n (z_ishl 1 b)).fa b.toNat ≠ 0) : Snd m (FX2_note K s (z_iand (mi K 46 b.toNat) (freC m b))) b fs n := by
  have hmf : mi K 46 b.toNat = (zwFly (Wst m b s) (Fm m f) n (z_ishl 1 b)).mf b.toNat := hJ.2.2.2.2.2.1 b.toNat (by omega)
  have hMr := z_iand_rng (mi K 46 b.toNat) (freC m b)
  have hSr := z_iand_rng s (z_iand (mi K 46 b.toNat) (freC m b))
  unfold FX2_note
  by_cases c : mi K 59 2 ≥ 256
  · rw [if_pos c]; exact h
  · rw [if_neg c]
    have hc := h.1
    have e59 : mi (si (si (si K 60 (mi K 59 2).toNat (z_iand s (z_iand (mi K 46 b.toNat) (freC m b)))) 61 (mi K 59 2).toNat (z_iand (mi K 46 b.toNat) (freC m b))) 59 2 (mi K 59 2 + 1)) 59 2 = mi K 59 2 + 1 := mi_si_same _ _ _ (by omega) (by omega)
    unfold Snd
    rw [e59]
    refine ⟨by omega, fun i hi x x0 x1 x2 x3 => ?_⟩
    have e61 : mi (si (si (si K 60 (mi K 59 2).toNat (z_iand s (z_iand (mi K 46 b.toNat) (freC m b)))) 61 (mi K 59 2).toNat (z_iand (mi K 46 b.toNat) (freC m b))) 59 2 (mi K 59 2 + 1)) 61 i = mi (si (si K 60 (mi K 59 2).toNat (z_iand s (z_iand (mi K 46 b.toNat) (freC m b)))) 61 (mi K 59 2).toNat (z_iand (mi K 46 b.toNat) (freC m b))) 61 i := mi_si_ne _ _ (by omega)
    have e60 : mi (si (si (si K 60 (mi K 59 2).toNat (z_iand s (z_iand (mi K 46 b.toNat) (freC m b)))) 61 (mi K 59 2).toNat (z_iand (mi K 46 b.toNat) (freC m b))) 59 2 (mi K 59 2 + 1)) 60 i = mi (si K 60 (mi K 59 2).toNat (z_iand s (z_iand (mi K 46 b.toNat) (freC m b)))) 60 i := (mi_si_ne _ _ (by omega)).trans (mi_si_ne _ _ (by omega))
    rw [e61, e60] at x3
    by_cases ci : i = (mi K 59 2).toNat
    · rw [ci, mi_si_same _ _ _ hMr.1 hMr.2, mi_si_same _ _ _ hSr.1 hSr.2, hmf] at x3
      exact same_fails hW hb hbn hs0 ⟨x0, x1⟩ hsf x2 hf hd x3
    · rw [mi_si_ne _ _ (fun z => ci z.2), mi_si_ne _ _ (by omega), mi_si_ne _ _ (fun z => ci z.2)] at x3
      exact h.2 i (by omega) x x0 x1 x2 x3
theorem LB.note {m K : AM} {b s y : Int} (h : LB m K b) (hp : pg m b = 62 ∨ 145 ≤ pg m b) : LB m (FX2_note K s y) b := by
  unfold FX2_note
  split
  · exact h
  · exact ((h.own hp (by decide) _).own hp (by decide) _).own hp (by decide) _
theorem LB.im {m N : AM} {b : Int} (h : LB m N b) (hp : pg m b = 62 ∨ 145 ≤ pg m b) : IM N := by
  have e : ∀ c j, c < 62 ∨ (62 < c ∧ c < 145) → mi N c j = mi (si N (pg m b) 8 (ownC m b)) c j := fun c j hc => (mi_si_ne _ _ (by omega)).symm
  exact h.2.i.same (fun q hq => e _ _ ((by decide : ∀ q ∈ imS, q.1 < 62 ∨ (62 < q.1 ∧ q.1 < 145)) q hq)) (fun q hq j => e _ _ ((by decide : ∀ q ∈ imA, q.1 < 62 ∨ (62 < q.1 ∧ q.1 < 145)) q hq)) (fun j => e _ _ (by omega)) (e _ _ (by omega)) (fun j hj => e _ _ (by omega)) (e _ _ (by omega))
/-- what the loop over sets reads of box b and its program -/
theorem LB.reads {m N : AM} {b : Int} (h : LB m N b) (hB : AgB m (wN m) b) : (bx m b < mz N ∧ mk N (bx m b) = 1) ∧ (pg m b < mz N ∧ mk N (pg m b) = 5) ∧ mi N (bx m b) 0 = b := by
  have q := h.1.1
  have ez : mz N = mz m := q.zz
  have ek : mk N = mk m := q.kk
  rw [ez, ek]
  refine ⟨⟨hB.1.2.1.1, hB.1.2.1.2.1⟩, ⟨hB.1.2.2.2.1, hB.1.2.2.2.2.1⟩, ?_⟩
  have w := q.2.2.1 (bx m b) 0 (nqd hB.2.1.1 0)
  rw [mi_si_ne _ _ (fun z => absurd z.2 (by decide))] at w
  exact w.trans hB.2.2.1.1

set_option maxRecDepth 20000 in
set_option maxHeartbeats 4000000 in
theorem lp_best_61 {G : QW} {m : AM} {b fs n z E : Int} {Rp : Option Vl → AM → Prop} (h : QR m) (hk : K0 m) (hb : 0 ≤ b ∧ b < mi m 0 16) (hn : 1 ≤ n ∧ n ≤ 200) (hfs1 : -2147483648 ≤ fs) (hfs2 : fs < 2147483648) (hz : 0 ≤ z ∧ z ≤ 8) (hexit : ∀ N, LB m N b → Snd m N b fs n → qJ G mX11_bestWatches { frames := 7, cells := 0, slots := 0, locals := 60 * 7 } (qF G Rp 0 0) 169 [(0, vR 0), (1, vR (bx m b)), (2, vI fs), (3, vI n), (4, vR (pg m b)), (5, vI (ownC m b)), (6, vI (freC m b)), (7, vI E), (8, vI z)] [] N 0 0) : ∀ (c : Nat) (s : Int) (N : AM), LB m N b → Snd m N b fs n → s + c = 256 → 0 ≤ s → zBi (fun y => outl (Wst m b y) (Fm m) fs n (mi m 0 17) b) (freC m b) z c s = E → qJ G mX11_bestWatches { frames := 7, cells := 0, slots := 0, locals := 60 * 7 } (qF G Rp 0 0) 61 [(0, vR 0), (1, vR (bx m b)), (2, vI fs), (3, vI n), (4, vR (pg m b)), (5, vI (ownC m b)), (6, vI (freC m b)), (7, vI (-1)), (8, vI z), (9, vI s)] [] N 0 0 := by
  have h16 := h.i.s 0 16 0 6 (by decide)
  have hb5 : 0 ≤ b ∧ b ≤ 5 := by omega
  have hbW : b < (wN m).nb := by rw [← show mi m 0 16 = (wN m).nb from h.2.1.1]; exact hb.2
  have hB := (h.2.1.2 b hb.1 hbW).1
  have hpp := hB.2.1.2
  have hbx := hB.2.1.1
  have hor : -2147483648 ≤ ownC m b ∧ ownC m b < 2147483648 := mi_rng _ _ _
  have hfr : -2147483648 ≤ freC m b ∧ freC m b < 2147483648 := z_iand_rng _ _
  intro c
  induction c with
  | zero =>
    intro s N hL hSnd hs hs0 hE
    have e : -1 = E := hE
    refine j_iload rfl rfl ?_
    refine j_sipush rfl (by decide) ?_
    refine j_icmp_ge (tgt := 169) rfl (by decide) (by omega) (by omega) (by omega) (by omega) (fun hb9_1 => ?_) (fun hb9_1 => by exfalso; omega)
    refine j_loc (ls' := [(0, vR 0), (1, vR (bx m b)), (2, vI fs), (3, vI n), (4, vR (pg m b)), (5, vI (ownC m b)), (6, vI (freC m b)), (7, vI (-1)), (8, vI z)]) rfl ?_
    rw [e]
    exact hexit N hL hSnd
  | succ c ih =>
    intro s N hL hSnd hs hs0 hE
    have hS : St N := hL.2.s
    have hIN := hL.im hpp
    have e17 : mi N 0 17 = mi m 0 17 := (mi_si_ne _ _ (by omega)).symm.trans (hL.1.1.2.2.1 0 17 (by unfold NQ; omega))
    obtain ⟨⟨hx1, hx2⟩, ⟨hp1, hp2⟩, hnum⟩ := hL.reads hB
    refine j_iload rfl rfl ?_
    refine j_sipush rfl (by decide) ?_
    refine j_icmp_ge (tgt := 169) rfl (by decide) (by omega) (by omega) (by omega) (by omega) (fun hb66_1 => ?_) (fun hb66_1 => ?_)
    · skip
      exfalso; omega
    · skip
      refine j_iload rfl rfl ?_
      refine j_if_ge (tgt := 169) rfl (by decide) (by omega) (by omega) (fun hb71_1 => ?_) (fun hb71_1 => ?_)
      · skip
        exact absurd hb71_1 (by decide)
      · skip
        refine j_iload rfl rfl ?_
        refine j_callS (As := [_]) rfl okJ6_bitCount_0f7a4 c_X11_204 (ct_bitCount (by omega) (by omega)) rfl rfl (Nat.le_of_ble_eq_true rfl) (by decide) (by decide) ?_
        rintro vq mq ⟨e1, e2⟩
        rw [e1, e2]
        clear e1 e2
        simp only [Option.toList_some, Option.toList_none, List.cons_append, List.nil_append]
        have hbc := bcX_r8 (x := s) (by omega) (by omega)
        refine j_iload rfl rfl ?_
        refine j_icmp_ne (tgt := 163) rfl (by decide) (by omega) (by omega) (by omega) (by omega) (fun hb81_1 => ?_) (fun hb81_1 => ?_)
        · skip
          refine j_iinc rfl rfl (by decide) ?_
          refine j_goto (tgt := 61) rfl (by decide) ?_
          refine j_loc (ls' := [(0, vR 0), (1, vR (bx m b)), (2, vI fs), (3, vI n), (4, vR (pg m b)), (5, vI (ownC m b)), (6, vI (freC m b)), (7, vI (-1)), (8, vI z), (9, vI (s + 1))]) rfl ?_
          exact ih (s + 1) N hL hSnd (by omega) (by omega) (by rw [zBi_n (P := (fun y => outl (Wst m b y) (Fm m) fs n (mi m 0 17) b)) (fun q => hb81_1 q.1)] at hE; exact hE)
        · skip
          refine j_iload rfl rfl ?_
          refine j_iload rfl rfl ?_
          refine j_iconst rfl ?_
          refine j_ixor rfl ?_
          have z89_1 := z_ixor_rng (freC m b) (-1)
          refine j_iand rfl ?_
          have z90_1 := z_iand_rng s (z_ixor (freC m b) (-1))
          refine j_if_ne (tgt := 163) rfl (by decide) (by omega) (by omega) (fun hb91_1 => ?_) (fun hb91_1 => ?_)
          · skip
            refine j_iinc rfl rfl (by decide) ?_
            refine j_goto (tgt := 61) rfl (by decide) ?_
            refine j_loc (ls' := [(0, vR 0), (1, vR (bx m b)), (2, vI fs), (3, vI n), (4, vR (pg m b)), (5, vI (ownC m b)), (6, vI (freC m b)), (7, vI (-1)), (8, vI z), (9, vI (s + 1))]) rfl ?_
            exact ih (s + 1) N hL hSnd (by omega) (by omega) (by rw [zBi_n (P := (fun y => outl (Wst m b y) (Fm m) fs n (mi m 0 17) b)) (fun q => hb91_1 q.2.1)] at hE; exact hE)
          · skip
            refine j_aload_n rfl rfl ?_
            refine j_getR (q := 59) rfl f_X11_90 rfl (hS.lt (by decide)) (hS.k (by decide) (by decide)) (hS.r (by decide)) ?_
            refine j_iload rfl rfl ?_
            refine j_callV (ci := 2) rfl okX2_foretell c_X11_439 (ct_foretell hS hIN (by omega) hSnd.1) rfl rfl (hS.lt (by decide)) (hS.k (by decide) (by decide)) (by decide) rfl (Nat.le_of_ble_eq_true rfl) (by decide) (by decide) ?_
            rintro vq mq hq
            rcases hq with ⟨e2, ⟨hft, e1⟩ | ⟨hft, e1⟩⟩
            · subst e1
              rw [e2]
              simp only [Option.toList_some, Option.toList_none, List.cons_append, List.nil_append]
              refine j_if_eq (tgt := 109) rfl (by decide) (by omega) (by omega) (fun hb103_1 => ?_) (fun hb103_1 => ?_)
              · skip
                exact absurd hb103_1 (by decide)
              · skip
                refine j_goto (tgt := 163) rfl (by decide) ?_
                refine j_iinc rfl rfl (by decide) ?_
                refine j_goto (tgt := 61) rfl (by decide) ?_
                obtain ⟨i, i1, i2⟩ := hft
                refine j_loc (ls' := [(0, vR 0), (1, vR (bx m b)), (2, vI fs), (3, vI n), (4, vR (pg m b)), (5, vI (ownC m b)), (6, vI (freC m b)), (7, vI (-1)), (8, vI z), (9, vI (s + 1))]) rfl ?_
                exact ih (s + 1) N hL hSnd (by omega) (by omega) (by rw [zBi_n (P := (fun y => outl (Wst m b y) (Fm m) fs n (mi m 0 17) b)) (fun q => hSnd.2 i i1 s (by omega) (by omega) hb91_1 i2 q.2.2)] at hE; exact hE)
            · subst e1
              rw [e2]
              simp only [Option.toList_some, Option.toList_none, List.cons_append, List.nil_append]
              refine j_if_eq (tgt := 109) rfl (by decide) (by omega) (by omega) (fun hb103_2 => ?_) (fun hb103_2 => ?_)
              · skip
                refine j_aload rfl rfl ?_
                refine j_iload rfl rfl ?_
                refine j_iload rfl rfl ?_
                refine j_ior rfl ?_
                have z115_1 := z_ior_rng (ownC m b) s
                refine j_putI rfl f_X11_150 rfl hp1 hp2 ?_
                have hX := hL.x hk hb hbx (z_ior_rng (ownC m b) s)
                have hSx := hX.s
                have hIx := hX.i
                refine j_aload_n rfl rfl ?_
                refine j_aload_n rfl rfl ?_
                refine j_getI rfl f_X11_442 rfl hx1 hx2 ?_
                have u121_1 := mi_rng (si N (pg m b) 8 (z_ior (ownC m b) s)) (bx m b) 0
                rw [show mi (si N (pg m b) 8 (z_ior (ownC m b) s)) (bx m b) 0 = b from (mi_si_ne _ _ (fun q => absurd q.2 (by decide))).trans hnum]
                refine j_iload_n rfl rfl ?_
                refine j_iload_n rfl rfl ?_
                refine j_callV (ci := 11) rfl okX11_outlives c_X11_445 (ct_outlives hX hb5 hn hfs1 hfs2) rfl rfl (hS.lt (by decide)) (hS.k (by decide) (by decide)) (by decide) rfl (Nat.le_of_ble_eq_true rfl) (by decide) (by decide) ?_
                rintro vq K ⟨hC, hQ, hq⟩
                have hLK := hL.run h hpp hor hC.1 hQ
                have hSK : Snd m K b fs n := hSnd.keep (fun c j h1 h2 => (hC.2.cel (by unfold tcl; omega) j).trans (mi_si_ne _ _ (by omega)))
                have hS := hQ.s
                obtain ⟨⟨hx1, hx2⟩, ⟨hp1, hp2⟩, hnum2⟩ := hLK.reads hB
                have e17x : mi (si N (pg m b) 8 (z_ior (ownC m b) s)) 0 17 = mi m 0 17 := (mi_si_ne _ _ (by omega)).trans e17
                rw [e17x] at hq
                have hfm := hL.fm h hk hb (z_ior (ownC m b) s)
                rcases hq with ⟨e1, hok0⟩ | ⟨e1, f, hf, hJ, hd⟩
                · subst e1
                  simp only [Option.toList_some, Option.toList_none, List.cons_append, List.nil_append]
                  have hok := (outl_cg hfm).mp hok0
                  refine j_if_eq (tgt := 139) rfl (by decide) (by omega) (by omega) (fun hb129_1 => ?_) (fun hb129_1 => ?_)
                  · skip
                    exact absurd hb129_1 (by decide)
                  · skip
                    refine j_iload rfl rfl ?_
                    refine j_istore rfl (by decide) ?_
                    refine j_goto (tgt := 163) rfl (by decide) ?_
                    refine j_iinc rfl rfl (by decide) ?_
                    refine j_goto (tgt := 61) rfl (by decide) ?_
                    refine j_loc (ls' := [(0, vR 0), (1, vR (bx m b)), (2, vI fs), (3, vI n), (4, vR (pg m b)), (5, vI (ownC m b)), (6, vI (freC m b)), (7, vI s), (8, vI z), (9, vI (s + 1))]) rfl ?_
                    have eE : s = E := by rw [zBi_y (P := (fun y => outl (Wst m b y) (Fm m) fs n (mi m 0 17) b)) (by omega) hb91_1 hok] at hE; exact hE
                    rw [eE] at hs0 ⊢
                    refine j_iload rfl rfl ?_
                    refine j_sipush rfl (by decide) ?_
                    refine j_icmp_ge (tgt := 169) rfl (by decide) (by omega) (by omega) (by omega) (by omega) (fun hx61 => ?_) (fun hx61 => ?_)
                    · refine j_loc (ls' := [(0, vR 0), (1, vR (bx m b)), (2, vI fs), (3, vI n), (4, vR (pg m b)), (5, vI (ownC m b)), (6, vI (freC m b)), (7, vI E), (8, vI z)]) rfl ?_
                      exact hexit K hLK hSK
                    · refine j_iload rfl rfl ?_
                      refine j_if_ge (tgt := 169) rfl (by decide) (by omega) (by omega) (fun hx71 => ?_) (fun hx71 => by exfalso; omega)
                      refine j_loc (ls' := [(0, vR 0), (1, vR (bx m b)), (2, vI fs), (3, vI n), (4, vR (pg m b)), (5, vI (ownC m b)), (6, vI (freC m b)), (7, vI E), (8, vI z)]) rfl ?_
                      exact hexit K hLK hSK
                · subst e1
                  simp only [Option.toList_some, Option.toList_none, List.cons_append, List.nil_append]
                  rw [hfm f hf.1 hf.2.1] at hJ hd
                  have hno : ¬ outl (Wst m b s) (Fm m) fs n (mi m 0 17) b := fun q => hd ((zwFly_1 _ _ _ hb5).trans (q f hf.1 hf.2.1 hf.2.2))
                  have hS2 := hSK.note h.wok hb5 hbW ⟨hs0, by omega⟩ hb91_1 hf hJ hd
                  have hL2 := hLK.note (s := s) (y := z_iand (mi K 46 b.toNat) (freC m b)) hpp
                  have hIK := hLK.im hpp
                  refine j_if_eq (tgt := 139) rfl (by decide) (by omega) (by omega) (fun hb129_2 => ?_) (fun hb129_2 => ?_)
                  · skip
                    refine j_aload_n rfl rfl ?_
                    refine j_getR (q := 59) rfl f_X11_90 rfl (hS.lt (by decide)) (hS.k (by decide) (by decide)) (hS.r (by decide)) ?_
                    refine j_iload rfl rfl ?_
                    refine j_aload_n rfl rfl ?_
                    refine j_getR (q := 40) rfl f_X11_72 rfl (hS.lt (by decide)) (hS.k (by decide) (by decide)) (hS.r (by decide)) ?_
                    refine j_getR (q := 46) rfl f_X11_448 rfl (hS.lt (by decide)) (hS.k (by decide) (by decide)) (hS.r (by decide)) ?_
                    refine j_aload_n rfl rfl ?_
                    refine j_getI rfl f_X11_442 rfl hx1 hx2 ?_
                    have u153_1 := mi_rng K (bx m b) 0
                    rw [hnum2]
                    refine j_iald (n := 6) rfl (hS.lt (by decide)) (hS.k (by decide) (by decide)) (hS.n (by decide) (by decide)) (by omega) (by omega) (by decide) ?_
                    have u156_1 := mi_rng K 46 b.toNat
                    refine j_iload rfl rfl ?_
                    refine j_iand rfl ?_
                    have z159_1 := z_iand_rng (mi K 46 b.toNat) (freC m b)
                    refine j_callV (ci := 2) rfl okX2_note c_X11_451 (ct_X2_note hS hIK (by omega) (by omega) (by omega) (by omega) hSK.1.1) rfl rfl (hS.lt (by decide)) (hS.k (by decide) (by decide)) (by decide) rfl (Nat.le_of_ble_eq_true rfl) (by decide) (by decide) ?_
                    rintro vq mq ⟨e1, e2⟩
                    rw [e1, e2]
                    clear e1 e2
                    simp only [Option.toList_some, Option.toList_none, List.cons_append, List.nil_append]
                    refine j_iinc rfl rfl (by decide) ?_
                    refine j_goto (tgt := 61) rfl (by decide) ?_
                    refine j_loc (ls' := [(0, vR 0), (1, vR (bx m b)), (2, vI fs), (3, vI n), (4, vR (pg m b)), (5, vI (ownC m b)), (6, vI (freC m b)), (7, vI (-1)), (8, vI z), (9, vI (s + 1))]) rfl ?_
                    refine ih (s + 1) _ hL2 hS2 (by omega) (by omega) (by rw [zBi_n (P := (fun y => outl (Wst m b y) (Fm m) fs n (mi m 0 17) b)) (fun q => hno q.2.2)] at hE; exact hE)
                  · skip
                    exact absurd hb129_2 (by decide)
              · skip
                exact absurd hb103_2 (by decide)

set_option maxRecDepth 20000 in
set_option maxHeartbeats 4000000 in
theorem lp_best_46 {G : QW} {m : AM} {b fs n E : Int} {Rp : Option Vl → AM → Prop} (h : QR m) (hk : K0 m) (hb : 0 ≤ b ∧ b < mi m 0 16) (hn : 1 ≤ n ∧ n ≤ 200) (hfs1 : -2147483648 ≤ fs) (hfs2 : fs < 2147483648) (hEr : -1 ≤ E ∧ E < 256) (hexit : ∀ N, LB m N b → qJ G mX11_bestWatches { frames := 7, cells := 0, slots := 0, locals := 60 * 7 } (qF G Rp 0 0) 175 [(0, vR 0), (1, vR (bx m b)), (2, vI fs), (3, vI n), (4, vR (pg m b)), (5, vI (ownC m b)), (6, vI (freC m b)), (7, vI E)] [] N 0 0) : ∀ (c : Nat) (z : Int) (N : AM), LB m N b → Snd m N b fs n → z + c = 9 → 0 ≤ z → zBo (fun y => outl (Wst m b y) (Fm m) fs n (mi m 0 17) b) (freC m b) c z = E → qJ G mX11_bestWatches { frames := 7, cells := 0, slots := 0, locals := 60 * 7 } (qF G Rp 0 0) 46 [(0, vR 0), (1, vR (bx m b)), (2, vI fs), (3, vI n), (4, vR (pg m b)), (5, vI (ownC m b)), (6, vI (freC m b)), (7, vI (-1)), (8, vI z)] [] N 0 0 := by
  intro c
  induction c with
  | zero =>
    intro z N hL hSnd hz hz0 hE
    have e : -1 = E := hE
    refine j_iload rfl rfl ?_
    refine j_bipush rfl (by decide) ?_
    refine j_icmp_gt (tgt := 175) rfl (by decide) (by omega) (by omega) (by omega) (by omega) (fun hb9_1 => ?_) (fun hb9_1 => by exfalso; omega)
    rw [e]
    refine j_loc (ls' := [(0, vR 0), (1, vR (bx m b)), (2, vI fs), (3, vI n), (4, vR (pg m b)), (5, vI (ownC m b)), (6, vI (freC m b)), (7, vI E)]) rfl ?_
    exact hexit N hL
  | succ c ih =>
    intro z N hL hSnd hz hz0 hE
    refine j_iload rfl rfl ?_
    refine j_bipush rfl (by decide) ?_
    refine j_icmp_gt (tgt := 175) rfl (by decide) (by omega) (by omega) (by omega) (by omega) (fun hb50_1 => ?_) (fun hb50_1 => ?_)
    · skip
      exfalso; omega
    · skip
      refine j_iload rfl rfl ?_
      refine j_if_ge (tgt := 175) rfl (by decide) (by omega) (by omega) (fun hb55_1 => ?_) (fun hb55_1 => ?_)
      · skip
        exact absurd hb55_1 (by decide)
      · skip
        refine j_iconst rfl ?_
        refine j_istore rfl (by decide) ?_
        refine j_loc (ls' := [(0, vR 0), (1, vR (bx m b)), (2, vI fs), (3, vI n), (4, vR (pg m b)), (5, vI (ownC m b)), (6, vI (freC m b)), (7, vI (-1)), (8, vI z), (9, vI 0)]) rfl ?_
        refine lp_best_61 (E := (zBi (fun y => outl (Wst m b y) (Fm m) fs n (mi m 0 17) b) (freC m b) z 256 0)) h hk hb hn hfs1 hfs2 (by omega) (fun N hL hSnd => ?_) 256 0 N hL hSnd (by decide) (by decide) rfl
        refine j_iinc rfl rfl (by decide) ?_
        refine j_goto (tgt := 46) rfl (by decide) ?_
        have hir := zBi_rng (P := (fun y => outl (Wst m b y) (Fm m) fs n (mi m 0 17) b)) (fr := freC m b) (size := z) 256 0 (by decide)
        by_cases hq : (zBi (fun y => outl (Wst m b y) (Fm m) fs n (mi m 0 17) b) (freC m b) z 256 0) ≥ 0
        · have eE : (zBi (fun y => outl (Wst m b y) (Fm m) fs n (mi m 0 17) b) (freC m b) z 256 0) = E := by unfold zBo at hE; rw [if_pos hq] at hE; exact hE
          rw [eE] at hq ⊢
          refine j_loc (ls' := [(0, vR 0), (1, vR (bx m b)), (2, vI fs), (3, vI n), (4, vR (pg m b)), (5, vI (ownC m b)), (6, vI (freC m b)), (7, vI E), (8, vI (z + 1))]) rfl ?_
          refine j_iload rfl rfl ?_
          refine j_bipush rfl (by decide) ?_
          refine j_icmp_gt (tgt := 175) rfl (by decide) (by omega) (by omega) (by omega) (by omega) (fun hx50 => ?_) (fun hx50 => ?_)
          · refine j_loc (ls' := [(0, vR 0), (1, vR (bx m b)), (2, vI fs), (3, vI n), (4, vR (pg m b)), (5, vI (ownC m b)), (6, vI (freC m b)), (7, vI E)]) rfl ?_
            exact hexit N hL
          · refine j_iload rfl rfl ?_
            refine j_if_ge (tgt := 175) rfl (by decide) (by omega) (by omega) (fun hx55 => ?_) (fun hx55 => by exfalso; omega)
            refine j_loc (ls' := [(0, vR 0), (1, vR (bx m b)), (2, vI fs), (3, vI n), (4, vR (pg m b)), (5, vI (ownC m b)), (6, vI (freC m b)), (7, vI E)]) rfl ?_
            exact hexit N hL
        · have e1 : (zBi (fun y => outl (Wst m b y) (Fm m) fs n (mi m 0 17) b) (freC m b) z 256 0) = -1 := by omega
          rw [e1]
          refine j_loc (ls' := [(0, vR 0), (1, vR (bx m b)), (2, vI fs), (3, vI n), (4, vR (pg m b)), (5, vI (ownC m b)), (6, vI (freC m b)), (7, vI (-1)), (8, vI (z + 1))]) rfl ?_
          exact ih (z + 1) N hL hSnd (by omega) (by omega) (by unfold zBo at hE; rw [if_neg hq] at hE; exact hE)

set_option maxRecDepth 20000 in
set_option maxHeartbeats 4000000 in
/-- the least set of lines that, watched, keeps a box from being dead -/
theorem ct_bestWatches {G : QW} {m : AM} {b fs n : Int} (h : QR m) (hk : K0 m) (hb : 0 ≤ b ∧ b < mi m 0 16) (hn : 1 ≤ n ∧ n ≤ 200) (hfs1 : -2147483648 ≤ fs) (hfs2 : fs < 2147483648) : qM G mX11_bestWatches 7 0 0 [vR 0, vR (bx m b), vI fs, vI n] m (fun r N2 => CU m N2 ∧ QR N2 ∧ r = some (vI (zBo (fun y => outl (Wst m b y) (Fm m) fs n (mi m 0 17) b) (freC m b) 9 0))) := by
  have hS := h.s
  have hI := h.i
  have h16 := hI.s 0 16 0 6 (by decide)
  have hB := (h.2.1.2 b hb.1 (by rw [← h.2.1.1]; exact hb.2)).1
  have hpp := hB.2.1.2
  have hor : -2147483648 ≤ ownC m b ∧ ownC m b < 2147483648 := mi_rng _ _ _
  have hnl0 : mi m (pg m b) 6 = (wN m).nl b := hB.2.2.2.2.2.2.1
  have hnl1 := (h.wok.2 b hb.1 (by rw [← show mi m 0 16 = (wN m).nb from h.2.1.1]; exact hb.2)).1
  refine qM.intro okX11_bestWatches (Nat.le_of_ble_eq_true rfl) ?_
  refine j_aload_n rfl rfl ?_
  refine j_getR (q := (pg m b)) rfl f_X11_127 rfl hB.1.2.1.1 hB.1.2.1.2.1 hB.1.2.2.1 ?_
  refine j_astore rfl (by decide) ?_
  refine j_aload rfl rfl ?_
  refine j_getI rfl f_X11_150 rfl hB.1.2.2.2.1 hB.1.2.2.2.2.1 ?_
  have u8_1 := mi_rng m (pg m b) 8
  refine j_istore rfl (by decide) ?_
  refine j_iload rfl rfl ?_
  refine j_iconst rfl ?_
  refine j_ixor rfl ?_
  have z16_1 := z_ixor_rng (ownC m b) (-1)
  refine j_iconst rfl ?_
  refine j_aload rfl rfl ?_
  refine j_getI rfl f_X11_130 rfl hB.1.2.2.2.1 hB.1.2.2.2.2.1 ?_
  have u20_1 := mi_rng m (pg m b) 6
  refine j_ishl rfl ?_
  have z23_1 := z_ishl_rng 1 (mi m (pg m b) 6)
  refine j_iconst rfl ?_
  refine j_isub rfl ?_
  refine j_iand rfl ?_
  have z26_1 := z_iand_rng (z_ixor (ownC m b) (-1)) ((z_ishl 1 (mi m (pg m b) 6)) - 1)
  refine j_sipush rfl (by decide) ?_
  refine j_iand rfl ?_
  have z30_1 := z_iand_rng (z_iand (z_ixor (ownC m b) (-1)) ((z_ishl 1 (mi m (pg m b) 6)) - 1)) 255
  refine j_istore rfl (by decide) ?_
  refine j_iconst rfl ?_
  refine j_istore rfl (by decide) ?_
  refine j_aload_n rfl rfl ?_
  refine j_getR (q := 59) rfl f_X11_90 rfl (hS.lt (by decide)) (hS.k (by decide) (by decide)) (hS.r (by decide)) ?_
  refine j_callV (ci := 2) rfl okX2_clear c_X11_436 (ct_X2_clear hS hI) rfl rfl (hS.lt (by decide)) (hS.k (by decide) (by decide)) (by decide) rfl (Nat.le_of_ble_eq_true rfl) (by decide) (by decide) ?_
  rintro vq mq ⟨e1, e2⟩
  rw [e1, e2]
  clear e1 e2
  simp only [Option.toList_some, Option.toList_none, List.cons_append, List.nil_append]
  refine j_iconst rfl ?_
  refine j_istore rfl (by decide) ?_
  refine j_loc (ls' := [(0, vR 0), (1, vR (bx m b)), (2, vI fs), (3, vI n), (4, vR (pg m b)), (5, vI (ownC m b)), (6, vI (freC m b)), (7, vI (-1)), (8, vI 0)]) rfl ?_
  have hL0 : LB m (FX2_clear m) b := (LB.begins h hor).own hpp (by decide) _
  have hS0 : Snd m (FX2_clear m) b fs n := ⟨by unfold FX2_clear; rw [mi_si_same _ _ _ (by decide) (by decide)]; decide, fun i hi => by unfold FX2_clear at hi; rw [mi_si_same _ _ _ (by decide) (by decide)] at hi; omega⟩
  have hEr := zBo_rng (P := (fun y => outl (Wst m b y) (Fm m) fs n (mi m 0 17) b)) (fr := freC m b) 9 0
  refine lp_best_46 h hk hb hn hfs1 hfs2 hEr (fun N hL => ?_) 9 0 (FX2_clear m) hL0 hS0 (by decide) (by decide) rfl
  have hS : St N := hL.2.s
  obtain ⟨-, ⟨hp1, hp2⟩, -⟩ := hL.reads hB
  refine j_aload rfl rfl ?_
  refine j_iload rfl rfl ?_
  refine j_putI rfl f_X11_150 rfl hp1 hp2 ?_
  refine j_iload rfl rfl ?_
  refine j_iret rfl rfl ?_ rfl (Nat.le_refl _)
  exact ⟨hL.1, hL.2, rfl⟩


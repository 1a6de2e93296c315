theorem PSp.bxe {m N : AM} (h : PSp m N) (b : Int) : bx N b = bx m b ∧ pg N b = pg m b := by
  have er : mr N = mr m := congrArg (fun q => q.1) h.1
  unfold pg bx
  rw [er]
  exact ⟨rfl, rfl⟩
theorem PSp.k4 {m N : AM} (h : PSp m N) (k : K4 m) : K4 N := fun j hj => by
  rw [h.cel (by omega), h.cel (by omega), h.cel (by omega), h.cel (by omega)]
  exact k j hj
theorem PSp.enx {m N : AM} (h : PSp m N) (k b l : Int) : enX N k b l = enX m k b l := by
  have e : ∀ c, c ≠ 12 → mi N c = mi m c := fun c hc => funext (fun j => h.cel (fun z => hc z.1))
  have ec : cdX N = cdX m := by
    unfold cdX
    rw [e 98 (by decide), e 99 (by decide)]
  have er : rdE N k b = rdE m k b := by
    funext w v
    unfold rdE
    rw [e 88 (by decide), e 123 (by decide), e 124 (by decide)]
    rfl
  unfold enX
  rw [ec, er, e 96 (by decide), e 97 (by decide)]
theorem fits_sp {m K : AM} {k b l : Int} (h : QR m) (hb : 0 ≤ b ∧ b < mi m 0 16) (hl : 0 ≤ l ∧ l < mi m (pg m b) 6) (hp : PSp m K) (hn : (enX m k b l).1 ≠ 0) (h15 : ml K 15 0 = (enX m k b l).2.1) (h16 : ml K 16 0 = (enX m k b l).2.2) : FX8_fits K (bx m b) (pg m b) l = (if ovF m k b l = 0 then 1 else 0) ∧ mi K (pg m b + 5) l.toNat = (wN m).tg b l ∧ FX1_greatestFor K (bx m b) ((wN m).tg b l) = zwMost (wN m) b l ∧ 1 ≤ zwMost (wN m) b l ∧ zwMost (wN m) b l ≤ 524287 := by
  obtain ⟨hB, hL, ⟨hl11, hb5⟩, ⟨ob1, ob2, ob3⟩, hcel, hA⟩ := shows_ok h hb hl hp
  have hbW : b < (wN m).nb := by rw [← show mi m 0 16 = (wN m).nb from h.2.1.1]; exact hb.2
  have hW := h.wok.2 b hb.1 hbW
  have hx := hB.2.1.1
  have hpg := hB.2.1.2
  have e8 : mi K (pg m b) 8 = mi m (pg m b) 8 := hp.cel (by omega)
  have e5 : mi K (pg m b + 5) l.toNat = (wN m).tg b l := (hp.cel (by omega)).trans hA.2.2.2.1
  have hT := hL.2.2.2.1
  have hm : FX1_greatestFor K (bx m b) ((wN m).tg b l) = zwMost (wN m) b l ∧ 1 ≤ zwMost (wN m) b l ∧ zwMost (wN m) b l ≤ 524287 := by
    unfold zwMost
    by_cases h10 : (wN m).tg b l ≥ 10
    · rw [if_pos h10]
      unfold FX1_greatestFor
      rw [if_pos (by omega)]
      exact ⟨by decide, by decide, by decide⟩
    · rw [if_neg h10]
      have h7 := hT.2.2 (by omega)
      have e := hB.2.2.2.2.2.1 ((wN m).tg b l) hT.1 h7
      refine ⟨?_, hW.2.2.2 ((wN m).tg b l) hT.1 h7⟩
      rw [← e]
      unfold FX1_greatestFor
      rw [hp.cel (by omega)]
  refine ⟨?_, e5, hm⟩
  have ew : (wN m).wa b l = if mi m 93 ((12 * b) + l).toNat ≠ 0 then 1 else 0 := if_pos hb.1
  have eM : mostX m b ((12 * b) + l) = zwMost (wN m) b l := rfl
  unfold FX8_fits ovF
  rw [e8, hA.2.1, ew, e5, hm.1, show (0 : Int).toNat = 0 from rfl, h15, h16, eM, if_neg hn]
  by_cases c1 : mi m 93 ((12 * b) + l).toNat ≠ 0
  · rw [if_pos c1, if_pos rfl, if_pos c1, if_pos rfl]
  · rw [if_neg c1, if_neg c1]
    simp only [if_neg (show ¬ (0 : Int) = 1 by decide)]
    by_cases c2 : (enX m k b l).2.1 < -zwMost (wN m) b l - 1
    · rw [if_pos c2, if_pos (Or.inl c2), if_neg (show ¬ (1 : Int) = 0 by decide)]
    · rw [if_neg c2]
      by_cases c3 : (enX m k b l).2.2 > zwMost (wN m) b l
      · rw [if_pos c3, if_pos (Or.inr c3), if_neg (show ¬ (1 : Int) = 0 by decide)]
      · rw [if_neg c3, if_neg (show ¬ ((enX m k b l).2.1 < -zwMost (wN m) b l - 1 ∨ (enX m k b l).2.2 > zwMost (wN m) b l) from fun z => z.elim c2 c3), if_pos rfl]

set_option maxRecDepth 20000 in
set_option maxHeartbeats 4000000 in
theorem lp_gapsOfC {G : QW} {m : AM} {k b : Int} (h : QR m) (h4 : K4 m) (hk : 0 ≤ k ∧ k ≤ 1) (hb : 0 ≤ b ∧ b < mi m 0 16) : ∀ (c : Nat) (l : Int) (N : AM), PSp m N → l + c = mi m (pg m b) 6 → 0 ≤ l → qJ G mX8_gapsOf { frames := 5, cells := 0, slots := 0, locals := 60 * 5 } (qF G (fun r N2 => PSp m N2 ∧ r = some (vI (gapX m k b))) 0 0) 5 [(0, vR 12), (1, vI k), (2, vR (bx m b)), (3, vI (orL (gaF m k b) l.toNat)), (4, vI l)] [] N 0 0 := by
  intro c
  induction c with
  | zero =>
    intro l N hp hl hl0
    have hS := hp.st h.s
    have hB0 := (h.2.1.2 b hb.1 (by rw [← h.2.1.1]; exact hb.2)).1
    have ob1 := hp.ob hB0.1.2.1
    have ob3 := hp.ob hB0.1.2.2.2
    have ob2 : mr N (bx m b) 4 = some (pg m b) := by rw [show mr N = mr m from congrArg (fun q => q.1) hp.1]; exact hB0.1.2.2.1
    have enl : mi N (pg m b) 6 = mi m (pg m b) 6 := hp.cel (by have := hB0.2.1.2; omega)
    have hor := orL_rng (gaF m k b) l.toNat
    have hnl : mi m (pg m b) 6 = mi m 91 b.toNat := hB0.2.2.2.2.2.2.1
    have hnl2 := h.i.a 91 0 12 (by decide) b.toNat
    refine j_iload rfl rfl ?_
    refine j_aload_n rfl rfl ?_
    refine j_getR (q := (pg m b)) rfl f_X8_31 rfl ob1.1 ob1.2.1 ob2 ?_
    refine j_getI rfl f_X8_37 rfl ob3.1 ob3.2.1 ?_
    rw [enl]
    refine j_icmp_ge (tgt := 55) rfl (by decide) (by omega) (by omega) (by omega) (by omega) (fun hb9_1 => ?_) (fun hb9_1 => by exfalso; omega)
    refine j_iload_n rfl rfl ?_
    refine j_iret rfl rfl ?_ rfl (Nat.le_refl _)
    refine ⟨hp, ?_⟩
    unfold gapX
    rw [← hnl, show mi m (pg m b) 6 = l by omega]
  | succ c ih =>
    intro l N hp hl hl0
    have hS := hp.st h.s
    have hB0 := (h.2.1.2 b hb.1 (by rw [← h.2.1.1]; exact hb.2)).1
    have ob1 := hp.ob hB0.1.2.1
    have ob3 := hp.ob hB0.1.2.2.2
    have ob2 : mr N (bx m b) 4 = some (pg m b) := by rw [show mr N = mr m from congrArg (fun q => q.1) hp.1]; exact hB0.1.2.2.1
    have enl : mi N (pg m b) 6 = mi m (pg m b) 6 := hp.cel (by have := hB0.2.1.2; omega)
    have hor := orL_rng (gaF m k b) l.toNat
    have hnl : mi m (pg m b) 6 = mi m 91 b.toNat := hB0.2.2.2.2.2.2.1
    have hnl2 := h.i.a 91 0 12 (by decide) b.toNat
    have hll : l < mi m (pg m b) 6 := by omega
    obtain ⟨-, hL, ⟨hl11, hb5⟩, -, -, -⟩ := shows_ok h hb ⟨hl0, hll⟩ hp
    have eb := hp.bxe b
    have hsh := ct_shows (G := G) (m := N) (k := k) (b := b) (l := l) (hp.qr h) (hp.k4 h4) hk (by rw [hp.cel (c := 0) (by omega)]; exact hb) (by rw [eb.2, enl]; exact ⟨hl0, hll⟩)
    rw [eb.1] at hsh
    refine j_iload rfl rfl ?_
    refine j_aload_n rfl rfl ?_
    refine j_getR (q := (pg m b)) rfl f_X8_31 rfl ob1.1 ob1.2.1 ob2 ?_
    refine j_getI rfl f_X8_37 rfl ob3.1 ob3.2.1 ?_
    have u11_1 := mi_rng N (pg m b) 6
    rw [enl]
    refine j_icmp_ge (tgt := 55) rfl (by decide) (by omega) (by omega) (by omega) (by omega) (fun hb14_1 => ?_) (fun hb14_1 => ?_)
    · skip
      exfalso; omega
    · skip
      refine j_iload_n rfl rfl ?_
      refine j_aload_n rfl rfl ?_
      refine j_iload_n rfl rfl ?_
      refine j_aload_n rfl rfl ?_
      refine j_iload rfl rfl ?_
      refine j_callV (ci := 8) rfl okX8_shows c_X8_43 (hsh) rfl rfl (hS.lt (by decide)) (hS.k (by decide) (by decide)) (by decide) rfl (Nat.le_of_ble_eq_true rfl) (by decide) (by decide) ?_
      rintro vq K ⟨hpK, e1, hX⟩
      rw [hp.enx] at e1 hX
      have hp2 := hp.trans hpK
      obtain ⟨-, -, -, ⟨ob1, ob2, ob3⟩, -, -⟩ := shows_ok h hb ⟨hl0, hll⟩ hp2
      have hS := hp2.st h.s
      have hI := hp2.im h.i
      rcases enX_01 m k b l with hz | hz
      · rw [hz] at e1
        subst e1
        simp only [Option.toList_some, Option.toList_none, List.cons_append, List.nil_append]
        have ho : ovF m k b l ≠ 0 := by unfold ovF; rw [if_pos hz]; decide
        refine j_if_eq (tgt := 43) rfl (by decide) (by omega) (by omega) (fun hb26_1 => ?_) (fun hb26_1 => ?_)
        · skip
          refine j_iconst rfl ?_
          refine j_iload rfl rfl ?_
          refine j_ishl rfl ?_
          have z46_1 := z_ishl_rng 1 l
          refine j_ior rfl ?_
          have z47_1 := z_ior_rng (orL (gaF m k b) l.toNat) (z_ishl 1 l)
          refine j_istore_n rfl (by decide) ?_
          refine j_iinc rfl rfl (by decide) ?_
          refine j_goto (tgt := 5) rfl (by decide) ?_
          refine j_loc (ls' := [(0, vR 12), (1, vI k), (2, vR (bx m b)), (3, vI (z_ior (orL (gaF m k b) l.toNat) (z_ishl 1 l))), (4, vI (l + 1))]) rfl ?_
          rw [show z_ior (orL (gaF m k b) l.toNat) (z_ishl 1 l) = orL (gaF m k b) (l + 1).toNat from by rw [gaF_up hl0, if_pos ho]]
          exact ih (l + 1) K hp2 (by omega) (by omega)
        · skip
          exact absurd hb26_1 (by decide)
      · rw [hz] at e1
        subst e1
        simp only [Option.toList_some, Option.toList_none, List.cons_append, List.nil_append]
        have hX2 := (hX (by rw [hz]; decide)).1
        obtain ⟨f1, f2, f3, f4, f5⟩ := fits_sp h hb ⟨hl0, hll⟩ hp2 (by rw [hz]; decide) hX2.1 hX2.2
        have hT := hL.2.2.2.1
        refine j_if_eq (tgt := 43) rfl (by decide) (by omega) (by omega) (fun hb26_2 => ?_) (fun hb26_2 => ?_)
        · skip
          exact absurd hb26_2 (by decide)
        · skip
          refine j_aload_n rfl rfl ?_
          refine j_aload_n rfl rfl ?_
          refine j_iload rfl rfl ?_
          refine j_callV (ci := 8) rfl okX8_fits c_X8_47 (ct_X8_fits hS hI (by omega) (by omega) ob1 ob3 ob2 (by omega) (by rw [f2]; omega) (by rw [f2, f3]; omega)) rfl rfl (hS.lt (by decide)) (hS.k (by decide) (by decide)) (by decide) rfl (Nat.le_of_ble_eq_true rfl) (by decide) (by decide) ?_
          rintro vq mq ⟨e1, e2⟩
          rw [f1] at e1
          rw [e1, e2]
          clear e1 e2
          simp only [Option.toList_some, Option.toList_none, List.cons_append, List.nil_append]
          refine j_bif_eq (tgt := 43) rfl (by decide) (fun hb36_1 => ?_) (fun hb36_1 => ?_)
          · skip
            refine j_iconst rfl ?_
            refine j_iload rfl rfl ?_
            refine j_ishl rfl ?_
            have z46_2 := z_ishl_rng 1 l
            refine j_ior rfl ?_
            have z47_2 := z_ior_rng (orL (gaF m k b) l.toNat) (z_ishl 1 l)
            refine j_istore_n rfl (by decide) ?_
            refine j_iinc rfl rfl (by decide) ?_
            refine j_goto (tgt := 5) rfl (by decide) ?_
            refine j_loc (ls' := [(0, vR 12), (1, vI k), (2, vR (bx m b)), (3, vI (z_ior (orL (gaF m k b) l.toNat) (z_ishl 1 l))), (4, vI (l + 1))]) rfl ?_
            rw [show z_ior (orL (gaF m k b) l.toNat) (z_ishl 1 l) = orL (gaF m k b) (l + 1).toNat from by rw [gaF_up hl0, if_pos hb36_1]]
            exact ih (l + 1) K hp2 (by omega) (by omega)
          · skip
            refine j_iconst rfl ?_
            refine j_goto (tgt := 47) rfl (by decide) ?_
            refine j_ior rfl ?_
            have z47_3 := z_ior_rng (orL (gaF m k b) l.toNat) 0
            refine j_istore_n rfl (by decide) ?_
            refine j_iinc rfl rfl (by decide) ?_
            refine j_goto (tgt := 5) rfl (by decide) ?_
            refine j_loc (ls' := [(0, vR 12), (1, vI k), (2, vR (bx m b)), (3, vI (z_ior (orL (gaF m k b) l.toNat) 0)), (4, vI (l + 1))]) rfl ?_
            rw [show z_ior (orL (gaF m k b) l.toNat) 0 = orL (gaF m k b) (l + 1).toNat from by rw [zor_0 hor.1 hor.2, gaF_up hl0, if_neg (fun z => z hb36_1)]]
            exact ih (l + 1) K hp2 (by omega) (by omega)

set_option maxRecDepth 20000 in
set_option maxHeartbeats 4000000 in
theorem ct_gapsOfC {G : QW} {m : AM} {k b : Int} (h : QR m) (h4 : K4 m) (hk : 0 ≤ k ∧ k ≤ 1) (hb : 0 ≤ b ∧ b < mi m 0 16) : qM G mX8_gapsOf 5 0 0 [vR 12, vI k, vR (bx m b)] m (fun r N2 => PSp m N2 ∧ r = some (vI (gapX m k b))) := by
  have hnl : mi m (pg m b) 6 = mi m 91 b.toNat := (h.2.1.2 b hb.1 (by rw [← h.2.1.1]; exact hb.2)).1.2.2.2.2.2.2.1
  have hnl2 := h.i.a 91 0 12 (by decide) b.toNat
  refine qM.intro okX8_gapsOf (Nat.le_of_ble_eq_true rfl) ?_
  refine j_iconst rfl ?_
  refine j_istore_n rfl (by decide) ?_
  refine j_iconst rfl ?_
  refine j_istore rfl (by decide) ?_
  refine j_loc (ls' := [(0, vR 12), (1, vI k), (2, vR (bx m b)), (3, vI 0), (4, vI 0)]) rfl ?_
  exact lp_gapsOfC h h4 hk hb (mi m (pg m b) 6).toNat 0 m (PSp.rf m) (by omega) (by decide)

set_option maxRecDepth 20000 in
set_option maxHeartbeats 4000000 in
/-- gaps() of the class -/
theorem cr_gaps {G : QW} {m : AM} {k b : Int} (h : QR m) (h4 : K4 m) (hk1 : -2147483648 ≤ k) (hk2 : k < 2147483648) (hb1 : -2147483648 ≤ b) (hb2 : b < 2147483648) : qM G mX11_gaps 6 0 0 [vR 0, vI k, vI b] m (fun r N2 => PSp m N2 ∧ r = some (vI (gapR m k b))) := by
  have hS := h.s
  have hI := h.i
  have h16 := hI.s 0 16 0 6 (by decide)
  have h16e : mi m 0 16 = mi m 86 1 := h.2.1.1
  have hB : 0 ≤ b ∧ b < mi m 0 16 → AgB m (wN m) b := fun q => (h.2.1.2 b q.1 (by rw [← h.2.1.1]; exact q.2)).1
  refine qM.intro okX11_gaps (Nat.le_of_ble_eq_true rfl) ?_
  refine j_iload_n rfl rfl ?_
  refine j_callS (As := [_]) rfl okX11_isMachine c_X11_229 (ct_X11_isMachine (by omega) (by omega)) rfl rfl (Nat.le_of_ble_eq_true rfl) (by decide) (by decide) ?_
  rintro vq mq ⟨e1, e2⟩
  rw [e1, e2]
  clear e1 e2
  simp only [Option.toList_some, Option.toList_none, List.cons_append, List.nil_append]
  refine j_bif_eq (tgt := 32) rfl (by decide) (fun hb4_1 => ?_) (fun hb4_1 => ?_)
  · skip
    refine j_iconst rfl ?_
    refine j_iret rfl rfl ?_ rfl (Nat.le_refl _)
    refine ⟨PSp.rf m, ?_⟩
    unfold gapR
    rw [if_neg (fun z => hb4_1 z.1)]
  · skip
    refine j_aload_n rfl rfl ?_
    refine j_iload_n rfl rfl ?_
    refine j_callV (ci := 11) rfl okX11_isBox c_X11_119 (ct_X11_isBox hS hI (by omega) (by omega)) rfl rfl (hS.lt (by decide)) (hS.k (by decide) (by decide)) (by decide) rfl (Nat.le_of_ble_eq_true rfl) (by decide) (by decide) ?_
    rintro vq mq ⟨e1, e2⟩
    rw [e1, e2]
    clear e1 e2
    simp only [Option.toList_some, Option.toList_none, List.cons_append, List.nil_append]
    have w1 := hI.s 0 16 (0) 6 (by decide)
    refine j_bif_eq (tgt := 32) rfl (by decide) (fun hb12_1 => ?_) (fun hb12_1 => ?_)
    · skip
      refine j_iconst rfl ?_
      refine j_iret rfl rfl ?_ rfl (Nat.le_refl _)
      refine ⟨PSp.rf m, ?_⟩
      unfold gapR
      rw [if_neg (fun z => hb12_1 (by rw [h16e]; exact z.2))]
    · skip
      have hbb : 0 ≤ b ∧ b < mi m 0 16 := hb12_1
      refine j_aload_n rfl rfl ?_
      refine j_getR (q := 12) rfl f_X11_44 rfl (hS.lt (by decide)) (hS.k (by decide) (by decide)) (hS.r (by decide)) ?_
      refine j_iload_n rfl rfl ?_
      refine j_aload_n rfl rfl ?_
      refine j_getR (q := 3) rfl f_X11_18 rfl (hS.lt (by decide)) (hS.k (by decide) (by decide)) (hS.r (by decide)) ?_
      refine j_iload_n rfl rfl ?_
      refine j_aald (k := 17) (n := 6) (v := (bx m b)) rfl (hS.lt (by decide)) (hS.k (by decide) (by decide)) el17 (hS.n (by decide) (by decide)) (by omega) (by omega) (by decide) (hB hbb).1.1 ?_
      refine j_callV (ci := 8) rfl okX8_gapsOf c_X11_274 (ct_gapsOfC h h4 hb4_1 hbb) rfl rfl (hS.lt (by decide)) (hS.k (by decide) (by decide)) (by decide) rfl (Nat.le_of_ble_eq_true rfl) (by decide) (by decide) ?_
      rintro vq N ⟨hp, e1⟩
      rw [e1]
      clear e1
      simp only [Option.toList_some, Option.toList_none, List.cons_append, List.nil_append]
      have hgr := gapX_rng m k b
      refine j_goto (tgt := 33) rfl (by decide) ?_
      refine j_iret rfl rfl ?_ rfl (Nat.le_refl _)
      refine ⟨hp, ?_⟩
      unfold gapR
      rw [if_pos ⟨hb4_1, by rw [← h16e]; exact hbb⟩]

set_option maxRecDepth 20000 in
set_option maxHeartbeats 4000000 in
/-- bounds() of the class -/
theorem cr_bounds {G : QW} {m : AM} {k b l what : Int} (h : QR m) (h4 : K4 m) (hX : HX m) (hk1 : -2147483648 ≤ k) (hk2 : k < 2147483648) (hb1 : -2147483648 ≤ b) (hb2 : b < 2147483648) (hl1 : -2147483648 ≤ l) (hl2 : l < 2147483648) (hwhat1 : -2147483648 ≤ what) (hwhat2 : what < 2147483648) : qM G mX11_bounds 6 0 0 [vR 0, vI k, vI b, vI l, vI what] m (fun r N2 => PSp m N2 ∧ r = some (vI (bouR m k b l what))) := by
  have hS := h.s
  have hI := h.i
  have h16 := hI.s 0 16 0 6 (by decide)
  have h16e : mi m 0 16 = mi m 86 1 := h.2.1.1
  have hB : 0 ≤ b ∧ b < mi m 0 16 → AgB m (wN m) b := fun q => (h.2.1.2 b q.1 (by rw [← h.2.1.1]; exact q.2)).1
  have hnl : 0 ≤ b ∧ b < mi m 0 16 → mi m (pg m b) 6 = mi m 91 b.toNat := fun q => (hB q).2.2.2.2.2.2.1
  refine qM.intro okX11_bounds (Nat.le_of_ble_eq_true rfl) ?_
  refine j_iload_n rfl rfl ?_
  refine j_callS (As := [_]) rfl okX11_isMachine c_X11_229 (ct_X11_isMachine (by omega) (by omega)) rfl rfl (Nat.le_of_ble_eq_true rfl) (by decide) (by decide) ?_
  rintro vq mq ⟨e1, e2⟩
  rw [e1, e2]
  clear e1 e2
  simp only [Option.toList_some, Option.toList_none, List.cons_append, List.nil_append]
  refine j_bif_eq (tgt := 27) rfl (by decide) (fun hb4_1 => ?_) (fun hb4_1 => ?_)
  · skip
    refine j_ldc (v := -2000000000) rfl k_X11_136 ?_
    refine j_iret rfl rfl ?_ rfl (Nat.le_refl _)
    refine ⟨PSp.rf m, ?_⟩
    unfold bouR
    rw [if_neg (fun z => hb4_1 z.1)]
  · skip
    refine j_aload_n rfl rfl ?_
    refine j_iload_n rfl rfl ?_
    refine j_iload_n rfl rfl ?_
    refine j_callV (ci := 11) rfl okX11_isLine c_X11_140 (ct_X11_isLine hS hI (by omega) (by omega) (by omega) (by omega) hX) rfl rfl (hS.lt (by decide)) (hS.k (by decide) (by decide)) (by decide) rfl (Nat.le_of_ble_eq_true rfl) (by decide) (by decide) ?_
    rintro vq mq ⟨e1, e2⟩
    rw [e1, e2]
    clear e1 e2
    simp only [Option.toList_some, Option.toList_none, List.cons_append, List.nil_append]
    have w1 := hI.s 0 16 (0) 6 (by decide)
    refine j_bif_eq (tgt := 27) rfl (by decide) (fun hb13_1 => ?_) (fun hb13_1 => ?_)
    · skip
      refine j_ldc (v := -2000000000) rfl k_X11_136 ?_
      refine j_iret rfl rfl ?_ rfl (Nat.le_refl _)
      refine ⟨PSp.rf m, ?_⟩
      unfold bouR
      rw [if_neg (fun z => hb13_1 ⟨by rw [h16e]; exact z.2.1.1, z.2.1.2.1, by rw [hnl (by rw [h16e]; exact z.2.1.1)]; exact z.2.1.2.2⟩)]
    · skip
      have hb13 : (0 ≤ b ∧ b < mi m 0 16) ∧ 0 ≤ l ∧ l < mi m (pg m b) 6 := hb13_1
      refine j_iload rfl rfl ?_
      refine j_if_lt (tgt := 27) rfl (by decide) (by omega) (by omega) (fun hb18_1 => ?_) (fun hb18_1 => ?_)
      · skip
        refine j_ldc (v := -2000000000) rfl k_X11_136 ?_
        refine j_iret rfl rfl ?_ rfl (Nat.le_refl _)
        refine ⟨PSp.rf m, ?_⟩
        unfold bouR
        rw [if_neg (fun z => by have := z.2.2; omega)]
      · skip
        refine j_iload rfl rfl ?_
        refine j_iconst rfl ?_
        refine j_icmp_le (tgt := 30) rfl (by decide) (by omega) (by omega) (by omega) (by omega) (fun hb24_1 => ?_) (fun hb24_1 => ?_)
        · skip
          refine j_aload_n rfl rfl ?_
          refine j_getR (q := 12) rfl f_X11_44 rfl (hS.lt (by decide)) (hS.k (by decide) (by decide)) (hS.r (by decide)) ?_
          refine j_iload_n rfl rfl ?_
          refine j_aload_n rfl rfl ?_
          refine j_getR (q := 3) rfl f_X11_18 rfl (hS.lt (by decide)) (hS.k (by decide) (by decide)) (hS.r (by decide)) ?_
          refine j_iload_n rfl rfl ?_
          refine j_aald (k := 17) (n := 6) (v := (bx m b)) rfl (hS.lt (by decide)) (hS.k (by decide) (by decide)) el17 (hS.n (by decide) (by decide)) (by omega) (by omega) (by decide) (hB hb13.1).1.1 ?_
          refine j_iload_n rfl rfl ?_
          refine j_callV (ci := 8) rfl okX8_shows c_X11_278 (ct_shows h h4 hb4_1 hb13.1 hb13.2) rfl rfl (hS.lt (by decide)) (hS.k (by decide) (by decide)) (by decide) rfl (Nat.le_of_ble_eq_true rfl) (by decide) (by decide) ?_
          rintro vq N ⟨hp, e1, hX2⟩
          have hS := hp.st h.s
          have hI := hp.im h.i
          have hV : ((0 ≤ k ∧ k ≤ 1) ∧ ((0 ≤ b ∧ b < mi m 86 1) ∧ 0 ≤ l ∧ l < mi m 91 b.toNat) ∧ (0 ≤ what ∧ what ≤ 1)) := ⟨hb4_1, ⟨by rw [← h16e]; exact hb13.1, hb13.2.1, by rw [← hnl hb13.1]; exact hb13.2.2⟩, by omega⟩
          rcases enX_01 m k b l with hz | hz
          · rw [hz] at e1
            subst e1
            simp only [Option.toList_some, Option.toList_none, List.cons_append, List.nil_append]
            refine j_if_ne (tgt := 51) rfl (by decide) (by omega) (by omega) (fun hb45_1 => ?_) (fun hb45_1 => ?_)
            · skip
              exact absurd hb45_1 (by decide)
            · skip
              refine j_ldc (v := -2000000000) rfl k_X11_136 ?_
              refine j_iret rfl rfl ?_ rfl (Nat.le_refl _)
              refine ⟨hp, ?_⟩
              unfold bouR
              rw [if_pos hV, if_pos hz]
          · rw [hz] at e1
            subst e1
            simp only [Option.toList_some, Option.toList_none, List.cons_append, List.nil_append]
            have hx2 := (hX2 (by rw [hz]; decide)).1
            have hr := (hX2 (by rw [hz]; decide)).2
            refine j_if_ne (tgt := 51) rfl (by decide) (by omega) (by omega) (fun hb45_2 => ?_) (fun hb45_2 => ?_)
            · skip
              refine j_iload rfl rfl ?_
              refine j_if_ne (tgt := 66) rfl (by decide) (by omega) (by omega) (fun hb53_1 => ?_) (fun hb53_1 => ?_)
              · skip
                refine j_aload_n rfl rfl ?_
                refine j_getR (q := 12) rfl f_X11_44 rfl (hS.lt (by decide)) (hS.k (by decide) (by decide)) (hS.r (by decide)) ?_
                refine j_callV (ci := 8) rfl okX8_greatestShown c_X11_285 (ct_X8_greatestShown hS hI) rfl rfl (hS.lt (by decide)) (hS.k (by decide) (by decide)) (by decide) rfl (Nat.le_of_ble_eq_true rfl) (by decide) (by decide) ?_
                rintro vq mq ⟨e1, e2⟩
                rw [e1, e2]
                clear e1 e2
                simp only [Option.toList_some, Option.toList_none, List.cons_append, List.nil_append]
                refine j_iret rfl rfl ?_ rfl (Nat.le_refl _)
                refine ⟨hp, ?_⟩
                unfold bouR
                rw [if_pos hV, if_neg (by rw [hz]; decide), if_neg (by omega)]
                unfold FX8_greatestShown
                rw [show (0 : Int).toNat = 0 from rfl, hx2.2, z_l2i_of (by omega) (by omega)]
              · skip
                refine j_aload_n rfl rfl ?_
                refine j_getR (q := 12) rfl f_X11_44 rfl (hS.lt (by decide)) (hS.k (by decide) (by decide)) (hS.r (by decide)) ?_
                refine j_callV (ci := 8) rfl okX8_leastShown c_X11_282 (ct_X8_leastShown hS hI) rfl rfl (hS.lt (by decide)) (hS.k (by decide) (by decide)) (by decide) rfl (Nat.le_of_ble_eq_true rfl) (by decide) (by decide) ?_
                rintro vq mq ⟨e1, e2⟩
                rw [e1, e2]
                clear e1 e2
                simp only [Option.toList_some, Option.toList_none, List.cons_append, List.nil_append]
                refine j_goto (tgt := 73) rfl (by decide) ?_
                refine j_iret rfl rfl ?_ rfl (Nat.le_refl _)
                refine ⟨hp, ?_⟩
                unfold bouR
                rw [if_pos hV, if_neg (by rw [hz]; decide), if_pos (by omega)]
                unfold FX8_leastShown
                rw [show (0 : Int).toNat = 0 from rfl, hx2.1, z_l2i_of (by omega) (by omega)]
            · skip
              exact absurd hb45_2 (by decide)
        · skip
          refine j_ldc (v := -2000000000) rfl k_X11_136 ?_
          refine j_iret rfl rfl ?_ rfl (Nat.le_refl _)
          refine ⟨PSp.rf m, ?_⟩
          unfold bouR
          rw [if_neg (fun z => by have := z.2.2; omega)]


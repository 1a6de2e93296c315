set_option maxRecDepth 20000 in
set_option maxHeartbeats 4000000 in
theorem ct_X11_areFlights {G : QW} {m : AM} (hS : St m) (hI : IM m) {fs : Int} (hfs1 : -2147483648 ≤ fs) (hfs2 : fs < 2147483648) : qM G mX11_areFlights 0 0 0 [vR 0, vI fs] m (fun r m' => r = some (vI (if 0 ≤ fs ∧ z_ishr fs (mi m 0 17) = 0 then 1 else 0)) ∧ m' = m) := by
  refine qM.intro okX11_areFlights (Nat.le_of_ble_eq_true rfl) ?_
  refine j_iload_n rfl rfl ?_
  refine j_if_lt (tgt := 17) rfl (by decide) (by omega) (by omega) (fun hb1_1 => ?_) (fun hb1_1 => ?_)
  · skip
    refine j_iconst rfl ?_
    refine j_zret rfl rfl (by decide) ?_ rfl (Nat.le_refl _)
    exact ⟨by first | (rw [if_pos (by omega)]; done) | (rw [if_neg (by omega)]; done) | (exfalso; omega), rfl⟩
  · skip
    refine j_iload_n rfl rfl ?_
    refine j_aload_n rfl rfl ?_
    refine j_getI rfl f_X11_156 rfl (hS.lt (by decide)) (hS.k (by decide) (by decide)) ?_
    have u6_1 := hI.s 0 17 (0) 8 (by decide)
    refine j_ishr rfl ?_
    have z9_1 := z_ishr_rng fs (mi m 0 17)
    refine j_if_ne (tgt := 17) rfl (by decide) (by omega) (by omega) (fun hb10_1 => ?_) (fun hb10_1 => ?_)
    · skip
      refine j_iconst rfl ?_
      refine j_zret rfl rfl (by decide) ?_ rfl (Nat.le_refl _)
      exact ⟨by first | (rw [if_pos (by omega)]; done) | (rw [if_neg (by omega)]; done) | (exfalso; omega), rfl⟩
    · skip
      refine j_iconst rfl ?_
      refine j_goto (tgt := 18) rfl (by decide) ?_
      refine j_zret rfl rfl (by decide) ?_ rfl (Nat.le_refl _)
      exact ⟨by first | (rw [if_pos (by omega)]; done) | (rw [if_neg (by omega)]; done) | (exfalso; omega), rfl⟩

/-- whether the two stands of a box are unlike -/
noncomputable def uC (N : AM) : Nat → Int := fun o => @ite Int (likS N 32 40 o) (Classical.propDecidable _) 0 1
theorem uC_y {N : AM} {o : Int} (h : 0 ≤ o) (hl : likS N 32 40 o) : orL (uC N) (o + 1).toNat = orL (uC N) o.toNat := by
  rw [orL_up h, if_neg]
  unfold uC
  rw [show ((o.toNat : Nat) : Int) = o by omega, if_pos hl]
  decide
theorem uC_n {N : AM} {o : Int} (h : 0 ≤ o) (hl : ¬ likS N 32 40 o) : orL (uC N) (o + 1).toNat = z_ior (orL (uC N) o.toNat) (z_ishl 1 o) := by
  rw [orL_up h, if_pos]
  unfold uC
  rw [show ((o.toNat : Nat) : Int) = o by omega, if_neg hl]
  decide
theorem zor_0 {x : Int} (h : -2147483648 ≤ x) (h2 : x < 2147483648) : z_ior x 0 = x := by
  refine bt_ext (z_ior_rng _ _).1 (z_ior_rng _ _).2 h h2 (fun i _ => ?_)
  rw [bt_or, bt_0, Bool.or_false]

set_option maxRecDepth 20000 in
set_option maxHeartbeats 4000000 in
theorem lp_unlikeBoxes {G : QW} {N : AM} (hS : St N) (hI : IM N) : ∀ (c : Nat) (b : Int), b + c = mi N 0 16 → 0 ≤ b → qJ G mX11_unlikeBoxes { frames := 1, cells := 0, slots := 0, locals := 60 * 1 } (qF G (fun r m' => r = some (vI (orL (uC N) (mi N 0 16).toNat)) ∧ m' = N) 0 0) 4 [(0, vR 0), (1, vI (orL (uC N) b.toNat)), (2, vI b)] [] N 0 0 := by
  have hO := stO (o := 32) hS (Or.inr (Or.inl rfl))
  have hP := stO (o := 40) hS (Or.inr (Or.inr rfl))
  have h16 := hI.s 0 16 0 6 (by decide)
  intro c
  induction c with
  | zero =>
    intro b hb hb0
    have eb : mi N 0 16 = b := by omega
    refine j_iload_n rfl rfl ?_
    refine j_aload_n rfl rfl ?_
    refine j_getI rfl f_X11_113 rfl (hS.lt (by decide)) (hS.k (by decide) (by decide)) ?_
    refine j_icmp_ge (tgt := 43) rfl (by decide) (by omega) (by omega) (by omega) (by omega) (fun hb9_1 => ?_) (fun hb9_1 => by exfalso; omega)
    refine j_iload_n rfl rfl ?_
    refine j_iret rfl rfl ?_ rfl (Nat.le_refl _)
    exact ⟨by rw [eb], rfl⟩
  | succ c ih =>
    intro b hb hb0
    have hu1 := (orL_rng (uC N) b.toNat).1
    have hu2 := (orL_rng (uC N) b.toNat).2
    refine j_iload_n rfl rfl ?_
    refine j_aload_n rfl rfl ?_
    refine j_getI rfl f_X11_113 rfl (hS.lt (by decide)) (hS.k (by decide) (by decide)) ?_
    have u6_1 := hI.s 0 16 (0) 6 (by decide)
    refine j_icmp_ge (tgt := 43) rfl (by decide) (by omega) (by omega) (by omega) (by omega) (fun hb9_1 => ?_) (fun hb9_1 => ?_)
    · skip
      exfalso; omega
    · skip
      refine j_iload_n rfl rfl ?_
      refine j_aload_n rfl rfl ?_
      refine j_getR (q := 32) rfl f_X11_69 rfl (hS.lt (by decide)) (hS.k (by decide) (by decide)) (hS.r (by decide)) ?_
      refine j_aload_n rfl rfl ?_
      refine j_getR (q := 40) rfl f_X11_72 rfl (hS.lt (by decide)) (hS.k (by decide) (by decide)) (hS.r (by decide)) ?_
      refine j_iload_n rfl rfl ?_
      refine j_callV (ci := 9) rfl okX9_isLike c_X11_428 (ct_X9_isLike hO hP (by omega)) rfl rfl (hS.lt (by decide)) (hS.k (by decide) (by decide)) (by decide) rfl (Nat.le_of_ble_eq_true rfl) (by decide) (by decide) ?_
      rintro vq mq hq
      rcases hq with ⟨e2, ⟨hl, e1⟩ | ⟨hl, e1⟩⟩
      · subst e1
        rw [e2]
        simp only [Option.toList_some, Option.toList_none, List.cons_append, List.nil_append]
        refine j_if_eq (tgt := 32) rfl (by decide) (by omega) (by omega) (fun hb25_1 => ?_) (fun hb25_1 => ?_)
        · skip
          exact absurd hb25_1 (by decide)
        · skip
          refine j_iconst rfl ?_
          refine j_goto (tgt := 35) rfl (by decide) ?_
          refine j_ior rfl ?_
          have z35_1 := z_ior_rng (orL (uC N) b.toNat) 0
          refine j_istore_n rfl (by decide) ?_
          refine j_iinc rfl rfl (by decide) ?_
          refine j_goto (tgt := 4) rfl (by decide) ?_
          refine j_loc (ls' := [(0, vR 0), (1, vI (z_ior (orL (uC N) b.toNat) 0)), (2, vI (b + 1))]) rfl ?_
          rw [zor_0 hu1 hu2, ← uC_y hb0 hl]
          exact ih (b + 1) (by omega) (by omega)
      · subst e1
        rw [e2]
        simp only [Option.toList_some, Option.toList_none, List.cons_append, List.nil_append]
        refine j_if_eq (tgt := 32) rfl (by decide) (by omega) (by omega) (fun hb25_2 => ?_) (fun hb25_2 => ?_)
        · skip
          refine j_iconst rfl ?_
          refine j_iload_n rfl rfl ?_
          refine j_ishl rfl ?_
          have z34_1 := z_ishl_rng 1 b
          refine j_ior rfl ?_
          have z35_2 := z_ior_rng (orL (uC N) b.toNat) (z_ishl 1 b)
          refine j_istore_n rfl (by decide) ?_
          refine j_iinc rfl rfl (by decide) ?_
          refine j_goto (tgt := 4) rfl (by decide) ?_
          refine j_loc (ls' := [(0, vR 0), (1, vI (z_ior (orL (uC N) b.toNat) (z_ishl 1 b))), (2, vI (b + 1))]) rfl ?_
          rw [← uC_n hb0 hl]
          exact ih (b + 1) (by omega) (by omega)
        · skip
          exact absurd hb25_2 (by decide)

set_option maxRecDepth 20000 in
set_option maxHeartbeats 4000000 in
theorem ct_unlikeBoxes {G : QW} {N : AM} (hS : St N) (hI : IM N) : qM G mX11_unlikeBoxes 1 0 0 [vR 0] N (fun r m' => r = some (vI (orL (uC N) (mi N 0 16).toNat)) ∧ m' = N) := by
  refine qM.intro okX11_unlikeBoxes (Nat.le_of_ble_eq_true rfl) ?_
  refine j_iconst rfl ?_
  refine j_istore_n rfl (by decide) ?_
  refine j_iconst rfl ?_
  refine j_istore_n rfl (by decide) ?_
  refine j_loc (ls' := [(0, vR 0), (1, vI 0), (2, vI 0)]) rfl ?_
  exact lp_unlikeBoxes hS hI (mi N 0 16).toNat 0 (by have := hI.s 0 16 0 6 (by decide); omega) (by decide)

set_option maxRecDepth 20000 in
set_option maxHeartbeats 4000000 in
/-- far() of the class -/
theorem cr_far {G : QW} {m : AM} {b f n ft : Int} (h : QR m) (hb1 : -2147483648 ≤ b) (hb2 : b < 2147483648) (hf1 : -2147483648 ≤ f) (hf2 : f < 2147483648) (hn1 : -2147483648 ≤ n) (hn2 : n < 2147483648) (hft1 : -2147483648 ≤ ft) (hft2 : ft < 2147483648) : qM G mX11_far 6 0 0 [vR 0, vI b, vI f, vI n, vI ft] m (fun r N2 => (((0 ≤ b ∧ b < mi m 0 16) ∧ (0 ≤ f ∧ f < mi m 0 17) ∧ (1 ≤ n ∧ n ≤ 200) ∧ 0 ≤ ft ∧ (1 ≤ ft / 1000 ∧ ft / 1000 ≤ 9) ∧ ft % 1000 < 200) → JC N2 32 (zwFull (wN m) (feF m (fl m f)) n) ∧ JC N2 40 (zwFlyX (wN m) (feF m (fl m f)) n b (ft % 1000) (ft / 1000)) ∧ CU m N2 ∧ QR N2 ∧ r = some (vI (orL (uC N2) (mi m 0 16).toNat))) ∧ (¬ ((0 ≤ b ∧ b < mi m 0 16) ∧ (0 ≤ f ∧ f < mi m 0 17) ∧ (1 ≤ n ∧ n ≤ 200) ∧ 0 ≤ ft ∧ (1 ≤ ft / 1000 ∧ ft / 1000 ≤ 9) ∧ ft % 1000 < 200) → r = some (vI (-1)) ∧ N2 = m)) := by
  have hS := h.s
  have hI := h.i
  have h17 := hI.s 0 17 0 8 (by decide)
  have h16 := hI.s 0 16 0 6 (by decide)
  refine qM.intro okX11_far (Nat.le_of_ble_eq_true rfl) ?_
  refine j_aload_n rfl rfl ?_
  refine j_iload_n rfl rfl ?_
  refine j_callV (ci := 11) rfl okX11_isBox c_X11_119 (ct_X11_isBox hS hI (by omega) (by omega)) rfl rfl (hS.lt (by decide)) (hS.k (by decide) (by decide)) (by decide) rfl (Nat.le_of_ble_eq_true rfl) (by decide) (by decide) ?_
  rintro vq mq ⟨e1, e2⟩
  rw [e1, e2]
  clear e1 e2
  simp only [Option.toList_some, Option.toList_none, List.cons_append, List.nil_append]
  have w1 := hI.s 0 16 (0) 6 (by decide)
  refine j_bif_eq (tgt := 28) rfl (by decide) (fun hb5_1 => ?_) (fun hb5_1 => ?_)
  · skip
    refine j_iconst rfl ?_
    refine j_iret rfl rfl ?_ rfl (Nat.le_refl _)
    exact ⟨fun z => by exfalso; omega, fun _ => ⟨rfl, rfl⟩⟩
  · skip
    refine j_aload_n rfl rfl ?_
    refine j_iload_n rfl rfl ?_
    refine j_callV (ci := 11) rfl okX11_isFlight c_X11_191 (ct_X11_isFlight hS hI (by omega) (by omega)) rfl rfl (hS.lt (by decide)) (hS.k (by decide) (by decide)) (by decide) rfl (Nat.le_of_ble_eq_true rfl) (by decide) (by decide) ?_
    rintro vq mq ⟨e1, e2⟩
    rw [e1, e2]
    clear e1 e2
    simp only [Option.toList_some, Option.toList_none, List.cons_append, List.nil_append]
    have w2 := hI.s 0 17 (0) 8 (by decide)
    refine j_bif_eq (tgt := 28) rfl (by decide) (fun hb13_1 => ?_) (fun hb13_1 => ?_)
    · skip
      refine j_iconst rfl ?_
      refine j_iret rfl rfl ?_ rfl (Nat.le_refl _)
      exact ⟨fun z => by exfalso; omega, fun _ => ⟨rfl, rfl⟩⟩
    · skip
      refine j_iload_n rfl rfl ?_
      refine j_callS (As := [_]) rfl okX11_isTicks c_X11_194 (ct_X11_isTicks (by omega) (by omega)) rfl rfl (Nat.le_of_ble_eq_true rfl) (by decide) (by decide) ?_
      rintro vq mq ⟨e1, e2⟩
      rw [e1, e2]
      clear e1 e2
      simp only [Option.toList_some, Option.toList_none, List.cons_append, List.nil_append]
      refine j_bif_eq (tgt := 28) rfl (by decide) (fun hb20_1 => ?_) (fun hb20_1 => ?_)
      · skip
        refine j_iconst rfl ?_
        refine j_iret rfl rfl ?_ rfl (Nat.le_refl _)
        exact ⟨fun z => by exfalso; omega, fun _ => ⟨rfl, rfl⟩⟩
      · skip
        refine j_iload rfl rfl ?_
        refine j_if_ge (tgt := 30) rfl (by decide) (by omega) (by omega) (fun hb25_1 => ?_) (fun hb25_1 => ?_)
        · skip
          refine j_iload rfl rfl ?_
          refine j_sipush rfl (by decide) ?_
          refine j_idivN rfl (by omega) (by omega) (by omega) (by omega) ?_
          refine j_istore rfl (by decide) ?_
          refine j_iload rfl rfl ?_
          refine j_sipush rfl (by decide) ?_
          refine j_iremN rfl (by omega) (by omega) (by omega) (by omega) ?_
          refine j_istore rfl (by decide) ?_
          refine j_iload rfl rfl ?_
          refine j_iconst rfl ?_
          refine j_icmp_lt (tgt := 67) rfl (by decide) (by omega) (by omega) (by omega) (by omega) (fun hb49_1 => ?_) (fun hb49_1 => ?_)
          · skip
            refine j_iconst rfl ?_
            refine j_iret rfl rfl ?_ rfl (Nat.le_refl _)
            exact ⟨fun z => by exfalso; omega, fun _ => ⟨rfl, rfl⟩⟩
          · skip
            refine j_iload rfl rfl ?_
            refine j_bipush rfl (by decide) ?_
            refine j_icmp_gt (tgt := 67) rfl (by decide) (by omega) (by omega) (by omega) (by omega) (fun hb56_1 => ?_) (fun hb56_1 => ?_)
            · skip
              refine j_iconst rfl ?_
              refine j_iret rfl rfl ?_ rfl (Nat.le_refl _)
              exact ⟨fun z => by exfalso; omega, fun _ => ⟨rfl, rfl⟩⟩
            · skip
              refine j_iload rfl rfl ?_
              refine j_callS (As := [_]) rfl okX11_isTick c_X11_184 (ct_X11_isTick (by omega) (by omega)) rfl rfl (Nat.le_of_ble_eq_true rfl) (by decide) (by decide) ?_
              rintro vq mq ⟨e1, e2⟩
              rw [e1, e2]
              clear e1 e2
              simp only [Option.toList_some, Option.toList_none, List.cons_append, List.nil_append]
              refine j_bif_ne (tgt := 69) rfl (by decide) (fun hb64_1 => ?_) (fun hb64_1 => ?_)
              · skip
                refine j_aload_n rfl rfl ?_
                refine j_aload_n rfl rfl ?_
                refine j_getR (q := 32) rfl f_X11_69 rfl (hS.lt (by decide)) (hS.k (by decide) (by decide)) (hS.r (by decide)) ?_
                refine j_aload_n rfl rfl ?_
                refine j_getR (q := 4) rfl f_X11_24 rfl (hS.lt (by decide)) (hS.k (by decide) (by decide)) (hS.r (by decide)) ?_
                refine j_iload_n rfl rfl ?_
                refine j_aald (k := 18) (n := 8) (v := (fl m f)) rfl (hS.lt (by decide)) (hS.k (by decide) (by decide)) el18 (hS.n (by decide) (by decide)) (by omega) (by omega) (by decide) (h.flt (by omega) (by omega)).1.1 ?_
                refine j_iload_n rfl rfl ?_
                refine j_iconst rfl ?_
                refine j_callV (ci := 11) rfl okX11_fly c_X11_197 (ct_flyC h (CU.rf m) h (o := 32) (f := f) (by unfold sto; omega) (by omega) (by omega) (by omega) (by omega)) rfl rfl (hS.lt (by decide)) (hS.k (by decide) (by decide)) (by decide) rfl (Nat.le_of_ble_eq_true rfl) (by decide) (by decide) ?_
                rintro vq N ⟨e1, ⟨hT1, hJ1, -⟩, hC, hQ⟩
                rw [e1]
                clear e1
                simp only [Option.toList_some, Option.toList_none, List.cons_append, List.nil_append]
                have hS := hQ.s
                have hI := hQ.i
                refine j_aload_n rfl rfl ?_
                refine j_iload_n rfl rfl ?_
                refine j_iload rfl rfl ?_
                refine j_aload_n rfl rfl ?_
                refine j_getR (q := 4) rfl f_X11_24 rfl (hS.lt (by decide)) (hS.k (by decide) (by decide)) (hS.r (by decide)) ?_
                refine j_iload_n rfl rfl ?_
                refine j_aald (k := 18) (n := 8) (v := (fl m f)) rfl (hS.lt (by decide)) (hS.k (by decide) (by decide)) el18 (hS.n (by decide) (by decide)) (by omega) (by omega) (by decide) (by rw [hC.1.2.1 4 _ (fun z => absurd z.1 (by decide))]; exact (h.flt (by omega) (by omega)).1.1) ?_
                refine j_iload_n rfl rfl ?_
                refine j_iload rfl rfl ?_
                refine j_callV (ci := 11) rfl okX11_flyWithout c_X11_288 (ct_flyWithoutC h hC hQ (f := f) (by omega) (by omega) (by omega) (by omega) (by omega) (by omega)) rfl rfl (hS.lt (by decide)) (hS.k (by decide) (by decide)) (by decide) rfl (Nat.le_of_ble_eq_true rfl) (by decide) (by decide) ?_
                rintro vq K ⟨e1, ⟨hT2, hJ2⟩, hC2, hQ2⟩
                rw [e1]
                clear e1
                simp only [Option.toList_some, Option.toList_none, List.cons_append, List.nil_append]
                have hS := hQ2.s
                have hI := hQ2.i
                have e16 : mi K 0 16 = mi m 0 16 := hC2.1.2.2.1 0 16 (by unfold NQ; omega)
                refine j_aload_n rfl rfl ?_
                refine j_callV (ci := 11) rfl okX11_unlikeBoxes c_X11_292 (ct_unlikeBoxes hS hI) rfl rfl (hS.lt (by decide)) (hS.k (by decide) (by decide)) (by decide) rfl (Nat.le_of_ble_eq_true rfl) (by decide) (by decide) ?_
                rintro vq mq ⟨e1, e2⟩
                rw [e1, e2]
                clear e1 e2
                simp only [Option.toList_some, Option.toList_none, List.cons_append, List.nil_append]
                refine j_iret rfl rfl ?_ rfl (Nat.le_refl _)
                rw [zwFly_0] at hJ1
                exact ⟨fun _ => ⟨hJ1.same (fun r j hr => hT2.cel (by unfold tcl; omega) j), hJ2, hC2, hQ2, by rw [e16]⟩, fun z => absurd ⟨by omega, by omega, by omega, by omega, by omega, by omega⟩ z⟩
              · skip
                refine j_iconst rfl ?_
                refine j_iret rfl rfl ?_ rfl (Nat.le_refl _)
                exact ⟨fun z => by exfalso; omega, fun _ => ⟨rfl, rfl⟩⟩
        · skip
          refine j_iconst rfl ?_
          refine j_iret rfl rfl ?_ rfl (Nat.le_refl _)
          exact ⟨fun z => by exfalso; omega, fun _ => ⟨rfl, rfl⟩⟩


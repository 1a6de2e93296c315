set_option maxRecDepth 20000 in
set_option maxHeartbeats 4000000 in
theorem ct_X7_copyFrom {G : QW} {m : AM} {o f i j n : Nat} (hO : ObA m o 7 fsShelf) (hF : ObA m f 7 fsShelf) (h1 : i + n ≤ 60) (h2 : j + n ≤ 60) (h01 : ∀ k, mi m (f + 2) k = 0 ∨ mi m (f + 2) k = 1) : qM G mX7_copyFrom 1 0 0 [vR o, vR f, vI (i : Int), vI (j : Int), vI (n : Int)] m (fun r m' => r = none ∧ m' = cpi (cpl m (o + 1) (f + 1) i j n) (o + 2) (f + 2) i j n) := by
  refine qM.intro okX7_copyFrom (Nat.le_of_ble_eq_true rfl) ?_
  have q1 := hO.q 0 1 14 60 (by decide)
  have q2 := hO.q 1 2 15 60 (by decide)
  have p1 := hF.q 0 1 14 60 (by decide)
  have p2 := hF.q 1 2 15 60 (by decide)
  refine j_aload_n rfl rfl ?_
  refine j_getR (q := f + 1) rfl f_X7_9 rfl hF.1 hF.2.1 p1.1 ?_
  refine j_iload_n rfl rfl ?_
  refine j_aload_n rfl rfl ?_
  refine j_getR (q := o + 1) rfl f_X7_9 rfl hO.1 hO.2.1 q1.1 ?_
  refine j_iload_n rfl rfl ?_
  refine j_iload rfl rfl ?_
  refine j_copyL rfl cp_X7_55 p1.2.1 q1.2.1 p1.2.2.1 q1.2.2.1 (by rw [p1.2.2.2]; exact h1) (by rw [q1.2.2.2]; exact h2) (by omega) (by omega) (by omega) (by decide) (by decide) ?_
  refine j_aload_n rfl rfl ?_
  refine j_getR (q := f + 2) rfl f_X7_15 rfl hF.1 hF.2.1 p2.1 ?_
  refine j_iload_n rfl rfl ?_
  refine j_aload_n rfl rfl ?_
  refine j_getR (q := o + 2) rfl f_X7_15 rfl hO.1 hO.2.1 q2.1 ?_
  refine j_iload_n rfl rfl ?_
  refine j_iload rfl rfl ?_
  refine j_copyB rfl cp_X7_55 p2.2.1 q2.2.1 p2.2.2.1 q2.2.2.1 (Nat.le_trans h1 (Nat.le_of_eq p2.2.2.2.symm)) (Nat.le_trans h2 (Nat.le_of_eq q2.2.2.2.symm)) (by omega) (by omega) (by omega) h01 (by decide) (by decide) ?_
  refine j_vret rfl rfl ?_ rfl (Nat.le_refl _)
  exact ⟨rfl, rfl⟩

def FX11_shift (m : AM) (s1 : Int) (i : Int) (s2 : Int) (j : Int) (n : Int) : Int × AM :=
  if 0 ≤ s1 ∧ s1 ≤ 5 then
    if 0 ≤ s2 ∧ s2 ≤ 5 then
      if mi m (68 + 3 * s1.toNat) 2 < 0 ∧ mi m (68 + 3 * s1.toNat) 3 = -1 then
        ((-11), m)
      else
        if mi m (68 + 3 * s2.toNat) 2 < 0 ∧ mi m (68 + 3 * s2.toNat) 3 = -1 then
          ((-11), m)
        else
          if mi m (68 + 3 * s1.toNat) 3 ≠ -1 then
            if (mi m (68 + 3 * s1.toNat) 3) = (mi m (68 + 3 * s2.toNat) 3) then
              if 0 ≤ i ∧ 0 ≤ n ∧ i ≤ mi m (68 + 3 * s1.toNat) 4 ∧ n ≤ mi m (68 + 3 * s1.toNat) 4 - i then
                if 0 ≤ j ∧ 0 ≤ n ∧ j ≤ mi m (68 + 3 * s2.toNat) 4 ∧ n ≤ mi m (68 + 3 * s2.toNat) 4 - j then
                  (n, (cpi (cpl m ((68 + 3 * s2.toNat) + 1) ((68 + 3 * s1.toNat) + 1) i.toNat j.toNat n.toNat) ((68 + 3 * s2.toNat) + 2) ((68 + 3 * s1.toNat) + 2) i.toNat j.toNat n.toNat))
                else
                  ((-13), m)
              else
                ((-13), m)
            else
              ((-12), m)
          else
            ((-12), m)
    else
      ((-1), m)
  else
    ((-1), m)
set_option maxRecDepth 20000 in
set_option maxHeartbeats 4000000 in
theorem ct_X11_shift {G : QW} {m : AM} (hS : St m) (hI : IM m) {s1 : Int} {i : Int} {s2 : Int} {j : Int} {n : Int} (hs11 : -2147483648 ≤ s1) (hs12 : s1 < 2147483648) (hi1 : -2147483648 ≤ i) (hi2 : i < 2147483648) (hs21 : -2147483648 ≤ s2) (hs22 : s2 < 2147483648) (hj1 : -2147483648 ≤ j) (hj2 : j < 2147483648) (hn1 : -2147483648 ≤ n) (hn2 : n < 2147483648) (hl1 : 0 ≤ mi m (68 + 3 * s1.toNat) 4 ∧ mi m (68 + 3 * s1.toNat) 4 ≤ 60) (hl2 : 0 ≤ mi m (68 + 3 * s2.toNat) 4 ∧ mi m (68 + 3 * s2.toNat) 4 ≤ 60) (h01 : ∀ k, mi m ((68 + 3 * s1.toNat) + 2) k = 0 ∨ mi m ((68 + 3 * s1.toNat) + 2) k = 1) : qM G mX11_shift 2 0 0 [vR 0, vI s1, vI i, vI s2, vI j, vI n] m (fun r m' => r = some (vI (FX11_shift m s1 i s2 j n).1) ∧ m' = (FX11_shift m s1 i s2 j n).2) := by
  refine qM.intro okX11_shift (Nat.le_of_ble_eq_true rfl) ?_
  refine j_iload_n rfl rfl ?_
  refine j_callS (As := [_]) rfl okX11_isShelf c_X11_369 (ct_X11_isShelf (by omega) (by omega)) rfl rfl (Nat.le_of_ble_eq_true rfl) (by decide) (by decide) ?_
  rintro vq mq ⟨e1, e2⟩
  rw [e1, e2]
  clear e1 e2
  simp only [Option.toList_some, Option.toList_none, List.cons_append, List.nil_append]
  refine j_bif_eq (tgt := 14) rfl (by decide) (fun hb4_1 => ?_) (fun hb4_1 => ?_)
  · skip
    refine j_iconst rfl ?_
    refine j_iret rfl rfl ?_ rfl (Nat.le_refl _)
    unfold FX11_shift
    rw [if_neg hb4_1]
    exact ⟨rfl, rfl⟩
  · skip
    refine j_iload_n rfl rfl ?_
    refine j_callS (As := [_]) rfl okX11_isShelf c_X11_369 (ct_X11_isShelf (by omega) (by omega)) rfl rfl (Nat.le_of_ble_eq_true rfl) (by decide) (by decide) ?_
    rintro vq mq ⟨e1, e2⟩
    rw [e1, e2]
    clear e1 e2
    simp only [Option.toList_some, Option.toList_none, List.cons_append, List.nil_append]
    refine j_bif_ne (tgt := 16) rfl (by decide) (fun hb11_1 => ?_) (fun hb11_1 => ?_)
    · skip
      refine j_aload_n rfl rfl ?_
      refine j_getR (q := 5) rfl f_X11_30 rfl (hS.lt (by decide)) (hS.k (by decide) (by decide)) (hS.r (by decide)) ?_
      refine j_iload_n rfl rfl ?_
      have hq1 := hS.sh s1 (by omega) (by omega)
      refine j_aald (k := 19) (n := 6) (v := (68 + 3 * s1.toNat)) rfl (hS.lt (by decide)) (hS.k (by decide) (by decide)) el19 (hS.n (by decide) (by decide)) (by omega) (by omega) (by decide) hq1.1 ?_
      refine j_astore rfl (by decide) ?_
      refine j_aload_n rfl rfl ?_
      refine j_getR (q := 5) rfl f_X11_30 rfl (hS.lt (by decide)) (hS.k (by decide) (by decide)) (hS.r (by decide)) ?_
      refine j_iload_n rfl rfl ?_
      have hq2 := hS.sh s2 (by omega) (by omega)
      refine j_aald (k := 19) (n := 6) (v := (68 + 3 * s2.toNat)) rfl (hS.lt (by decide)) (hS.k (by decide) (by decide)) el19 (hS.n (by decide) (by decide)) (by omega) (by omega) (by decide) hq2.1 ?_
      refine j_astore rfl (by decide) ?_
      refine j_aload rfl rfl ?_
      refine j_callV (ci := 7) rfl okX7_isEmpty c_X11_173 (ct_X7_isEmpty hq1.2) rfl rfl hq1.2.1 hq1.2.2.1 (by decide) rfl (Nat.le_of_ble_eq_true rfl) (by decide) (by decide) ?_
      rintro vq mq ⟨e1, e2⟩
      rw [e1, e2]
      clear e1 e2
      simp only [Option.toList_some, Option.toList_none, List.cons_append, List.nil_append]
      refine j_bif_ne (tgt := 48) rfl (by decide) (fun hb37_1 => ?_) (fun hb37_1 => ?_)
      · skip
        refine j_bipush rfl (by decide) ?_
        refine j_iret rfl rfl ?_ rfl (Nat.le_refl _)
        unfold FX11_shift
        rw [if_pos hb4_1, if_pos hb11_1, if_pos hb37_1]
        exact ⟨rfl, rfl⟩
      · skip
        refine j_aload rfl rfl ?_
        refine j_callV (ci := 7) rfl okX7_isEmpty c_X11_173 (ct_X7_isEmpty hq2.2) rfl rfl hq2.2.1 hq2.2.2.1 (by decide) rfl (Nat.le_of_ble_eq_true rfl) (by decide) (by decide) ?_
        rintro vq mq ⟨e1, e2⟩
        rw [e1, e2]
        clear e1 e2
        simp only [Option.toList_some, Option.toList_none, List.cons_append, List.nil_append]
        refine j_bif_eq (tgt := 51) rfl (by decide) (fun hb45_1 => ?_) (fun hb45_1 => ?_)
        · skip
          refine j_aload rfl rfl ?_
          refine j_callV (ci := 7) rfl okX7_holdsRow c_X11_395 (ct_X7_holdsRow hq1.2) rfl rfl hq1.2.1 hq1.2.2.1 (by decide) rfl (Nat.le_of_ble_eq_true rfl) (by decide) (by decide) ?_
          rintro vq mq ⟨e1, e2⟩
          rw [e1, e2]
          clear e1 e2
          simp only [Option.toList_some, Option.toList_none, List.cons_append, List.nil_append]
          refine j_bif_eq (tgt := 72) rfl (by decide) (fun hb56_1 => ?_) (fun hb56_1 => ?_)
          · skip
            refine j_bipush rfl (by decide) ?_
            refine j_iret rfl rfl ?_ rfl (Nat.le_refl _)
            unfold FX11_shift
            rw [if_pos hb4_1, if_pos hb11_1, if_neg hb37_1, if_neg hb45_1, if_neg hb56_1]
            exact ⟨rfl, rfl⟩
          · skip
            refine j_aload rfl rfl ?_
            refine j_getI rfl f_X11_398 rfl hq1.2.1 hq1.2.2.1 ?_
            have u61_1 := mi_rng m (68 + 3 * s1.toNat) 3
            refine j_aload rfl rfl ?_
            refine j_getI rfl f_X11_398 rfl hq2.2.1 hq2.2.2.1 ?_
            have u66_1 := mi_rng m (68 + 3 * s2.toNat) 3
            refine j_icmp_eq (tgt := 75) rfl (by decide) (by omega) (by omega) (by omega) (by omega) (fun hb69_1 => ?_) (fun hb69_1 => ?_)
            · skip
              refine j_aload rfl rfl ?_
              refine j_iload_n rfl rfl ?_
              refine j_iload rfl rfl ?_
              refine j_callV (ci := 7) rfl okX7_hasPlaces c_X11_401 (ct_X7_hasPlaces hq1.2 (by omega) (by omega) (by omega) (by omega)) rfl rfl hq1.2.1 hq1.2.2.1 (by decide) rfl (Nat.le_of_ble_eq_true rfl) (by decide) (by decide) ?_
              rintro vq mq ⟨e1, e2⟩
              rw [e1, e2]
              clear e1 e2
              simp only [Option.toList_some, Option.toList_none, List.cons_append, List.nil_append]
              refine j_bif_eq (tgt := 98) rfl (by decide) (fun hb83_1 => ?_) (fun hb83_1 => ?_)
              · skip
                refine j_bipush rfl (by decide) ?_
                refine j_iret rfl rfl ?_ rfl (Nat.le_refl _)
                unfold FX11_shift
                rw [if_pos hb4_1, if_pos hb11_1, if_neg hb37_1, if_neg hb45_1, if_pos hb56_1, if_pos hb69_1, if_neg hb83_1]
                exact ⟨rfl, rfl⟩
              · skip
                refine j_aload rfl rfl ?_
                refine j_iload rfl rfl ?_
                refine j_iload rfl rfl ?_
                refine j_callV (ci := 7) rfl okX7_hasPlaces c_X11_401 (ct_X7_hasPlaces hq2.2 (by omega) (by omega) (by omega) (by omega)) rfl rfl hq2.2.1 hq2.2.2.1 (by decide) rfl (Nat.le_of_ble_eq_true rfl) (by decide) (by decide) ?_
                rintro vq mq ⟨e1, e2⟩
                rw [e1, e2]
                clear e1 e2
                simp only [Option.toList_some, Option.toList_none, List.cons_append, List.nil_append]
                refine j_bif_ne (tgt := 101) rfl (by decide) (fun hb95_1 => ?_) (fun hb95_1 => ?_)
                · skip
                  refine j_aload rfl rfl ?_
                  refine j_aload rfl rfl ?_
                  refine j_iload_n rfl rfl ?_
                  refine j_iload rfl rfl ?_
                  refine j_iload rfl rfl ?_
                  have hp1 := hb83_1
                  have hp2 := hb95_1
                  have cpc := ct_X7_copyFrom (G := G) (m := m) (i := i.toNat) (j := j.toNat) (n := n.toNat) hq2.2 hq1.2 (by omega) (by omega) h01
                  rw [show ((i.toNat : Nat) : Int) = i by omega, show ((j.toNat : Nat) : Int) = j by omega, show ((n.toNat : Nat) : Int) = n by omega] at cpc
                  refine j_callV (ci := 7) rfl okX7_copyFrom c_X11_404 (cpc) rfl rfl hq2.2.1 hq2.2.2.1 (by decide) rfl (Nat.le_of_ble_eq_true rfl) (by decide) (by decide) ?_
                  rintro vq mq ⟨e1, e2⟩
                  rw [e1, e2]
                  clear e1 e2
                  simp only [Option.toList_some, Option.toList_none, List.cons_append, List.nil_append]
                  refine j_iload rfl rfl ?_
                  refine j_iret rfl rfl ?_ rfl (Nat.le_refl _)
                  unfold FX11_shift
                  rw [if_pos hb4_1, if_pos hb11_1, if_neg hb37_1, if_neg hb45_1, if_pos hb56_1, if_pos hb69_1, if_pos hb83_1, if_pos hb95_1]
                  exact ⟨rfl, rfl⟩
                · skip
                  refine j_bipush rfl (by decide) ?_
                  refine j_iret rfl rfl ?_ rfl (Nat.le_refl _)
                  unfold FX11_shift
                  rw [if_pos hb4_1, if_pos hb11_1, if_neg hb37_1, if_neg hb45_1, if_pos hb56_1, if_pos hb69_1, if_pos hb83_1, if_neg hb95_1]
                  exact ⟨rfl, rfl⟩
            · skip
              refine j_bipush rfl (by decide) ?_
              refine j_iret rfl rfl ?_ rfl (Nat.le_refl _)
              unfold FX11_shift
              rw [if_pos hb4_1, if_pos hb11_1, if_neg hb37_1, if_neg hb45_1, if_pos hb56_1, if_neg hb69_1]
              exact ⟨rfl, rfl⟩
        · skip
          refine j_bipush rfl (by decide) ?_
          refine j_iret rfl rfl ?_ rfl (Nat.le_refl _)
          unfold FX11_shift
          rw [if_pos hb4_1, if_pos hb11_1, if_neg hb37_1, if_pos hb45_1]
          exact ⟨rfl, rfl⟩
    · skip
      refine j_iconst rfl ?_
      refine j_iret rfl rfl ?_ rfl (Nat.le_refl _)
      unfold FX11_shift
      rw [if_pos hb4_1, if_neg hb11_1]
      exact ⟨rfl, rfl⟩

/-- the kind above, as often as it is above -/
def unC (ab : Int) : Nat → Int → Int
  | 0, k => k
  | c + 1, k => if ab < k then unC ab c (List.getD abvA k.toNat 0) else k

set_option maxRecDepth 20000 in
set_option maxHeartbeats 4000000 in
theorem lp_isUnder {G : QW} {m : AM} {kd ab K : Int} {Rp : Option Vl → AM → Prop} (hT : TB G) (ha : 0 ≤ ab ∧ ab ≤ 6) (hexit : qJ G mX11_isUnder { frames := 0, cells := 0, slots := 0, locals := 60 * 0 } (qF G Rp 0 0) 27 [(1, vI ab), (2, vI K)] [] m 0 0) : ∀ (c : Nat) (k n : Int), (0 ≤ k ∧ k ≤ 6) → n + c = 7 → 0 ≤ n → unC ab c k = K → qJ G mX11_isUnder { frames := 0, cells := 0, slots := 0, locals := 60 * 0 } (qF G Rp 0 0) 4 [(0, vI kd), (1, vI ab), (2, vI k), (3, vI n)] [] m 0 0 := by
  intro c
  induction c with
  | zero =>
    intro k n hk hn hn0 hK
    refine j_iload_n rfl rfl ?_
    refine j_bipush rfl (by decide) ?_
    refine j_icmp_ge (tgt := 27) rfl (by decide) (by omega) (by omega) (by omega) (by omega) (fun hb19_1 => ?_) (fun hb19_1 => by exfalso; omega)
    refine j_loc (ls' := [(1, vI ab), (2, vI k)]) rfl ?_
    rw [show K = k from hK.symm] at hexit
    exact hexit
  | succ c ih =>
    intro k n hk hn hn0 hK
    refine j_iload_n rfl rfl ?_
    refine j_bipush rfl (by decide) ?_
    refine j_icmp_ge (tgt := 27) rfl (by decide) (by omega) (by omega) (by omega) (by omega) (fun hb7_1 => ?_) (fun hb7_1 => ?_)
    · skip
      have hK2 : K = k := by rw [← hK]; exact if_neg (by omega)
      rw [hK2] at hexit
      refine j_loc (ls' := [(1, vI ab), (2, vI k)]) rfl ?_
      exact hexit
    · skip
      refine j_iload_n rfl rfl ?_
      refine j_iload_n rfl rfl ?_
      refine j_icmp_le (tgt := 27) rfl (by decide) (by omega) (by omega) (by omega) (by omega) (fun hb12_1 => ?_) (fun hb12_1 => ?_)
      · skip
        have hK2 : K = k := by rw [← hK]; exact if_neg (by omega)
        rw [hK2] at hexit
        refine j_loc (ls' := [(1, vI ab), (2, vI k)]) rfl ?_
        exact hexit
      · skip
        refine j_gets2 rfl g_X11_414 ?_
        refine j_iload_n rfl rfl ?_
        refine j_oald rfl (by decide) (by omega) (by rw [hT.1.2]; omega) (by rw [hT.1.2]; decide) ?_
        rw [hT.2.2 k.toNat (by omega)]
        have y19_1 := abvA_r k.toNat
        refine j_istore_n rfl (by decide) ?_
        have hab := abvA_r1 (k := k) (by omega)
        have hab : 0 ≤ List.getD abvA k.toNat 0 ∧ List.getD abvA k.toNat 0 ≤ 6 := ⟨hab.1, by omega⟩
        refine j_iinc rfl rfl (by decide) ?_
        refine j_goto (tgt := 4) rfl (by decide) ?_
        refine j_loc (ls' := [(0, vI kd), (1, vI ab), (2, vI (List.getD abvA k.toNat 0)), (3, vI (n + 1))]) rfl ?_
        exact ih _ (n + 1) hab (by omega) (by omega) (by rw [← hK, show unC ab (c + 1) k = unC ab c (List.getD abvA k.toNat 0) from if_pos (by omega)])

theorem unC_r {ab : Int} (ha : 0 ≤ ab) : ∀ (c : Nat) (k : Int), 0 ≤ k ∧ k ≤ 6 → 0 ≤ unC ab c k ∧ unC ab c k ≤ 6 := by
  intro c
  induction c with
  | zero => intro k h; exact h
  | succ c ih =>
    intro k h
    unfold unC
    split
    · next q => have := abvA_r1 (k := k) (by omega); exact ih _ ⟨this.1, by omega⟩
    · exact h

set_option maxRecDepth 20000 in
set_option maxHeartbeats 4000000 in
theorem ct_isUnder {G : QW} {m : AM} {kd ab : Int} (hT : TB G) (hk : 0 ≤ kd ∧ kd ≤ 6) (ha : 0 ≤ ab ∧ ab ≤ 6) : qM G mX11_isUnder 0 0 0 [vI kd, vI ab] m (fun r m' => r = some (vI (if unC ab 7 kd = ab then 1 else 0)) ∧ m' = m) := by
  refine qM.intro okX11_isUnder (Nat.le_of_ble_eq_true rfl) ?_
  refine j_iload_n rfl rfl ?_
  refine j_istore_n rfl (by decide) ?_
  refine j_iconst rfl ?_
  refine j_istore_n rfl (by decide) ?_
  refine j_loc (ls' := [(0, vI kd), (1, vI ab), (2, vI kd), (3, vI 0)]) rfl ?_
  refine lp_isUnder (K := unC ab 7 kd) hT ha ?_ 7 kd 0 hk (by decide) (by decide) rfl
  have hur := unC_r ha.1 7 kd hk
  refine j_iload_n rfl rfl ?_
  refine j_iload_n rfl rfl ?_
  refine j_icmp_ne (tgt := 36) rfl (by decide) (by omega) (by omega) (by omega) (by omega) (fun hb29_1 => ?_) (fun hb29_1 => ?_)
  · skip
    refine j_iconst rfl ?_
    refine j_zret rfl rfl (by decide) ?_ rfl (Nat.le_refl _)
    exact ⟨by rw [if_neg (by omega)], rfl⟩
  · skip
    refine j_iconst rfl ?_
    refine j_goto (tgt := 37) rfl (by decide) ?_
    refine j_zret rfl rfl (by decide) ?_ rfl (Nat.le_refl _)
    exact ⟨by rw [if_pos (by omega)], rfl⟩

def FX11_taken (m : AM) (sh : Int) (k : Int) : Int :=
  if 0 ≤ sh ∧ sh ≤ 5 then
    if k < 0 then
      (-1)
    else
      if k < 7 then
        if mi m (68 + 3 * sh.toNat) 2 < 0 ∧ mi m (68 + 3 * sh.toNat) 3 = -1 then
          (-11)
        else
          if 0 ≤ (mi m (68 + 3 * sh.toNat) 2) ∧ (mi m (68 + 3 * sh.toNat) 2) < mi m 0 16 then
            if unC k 7 (mi m (bx m (mi m (68 + 3 * sh.toNat) 2)) 1) = k then
              mi m (bx m (mi m (68 + 3 * sh.toNat) 2)) 1
            else
              (-12)
          else
            (-12)
      else
        (-1)
  else
    (-1)
set_option maxRecDepth 20000 in
set_option maxHeartbeats 4000000 in
theorem ct_X11_taken {G : QW} {m : AM} (hS : St m) (hI : IM m) {sh : Int} {k : Int} (hsh1 : -2147483648 ≤ sh) (hsh2 : sh < 2147483648) (hk1 : -2147483648 ≤ k) (hk2 : k < 2147483648) (hT : TB G) (hX : HX m) : qM G mX11_taken 1 0 0 [vR 0, vI sh, vI k] m (fun r m' => r = some (vI (FX11_taken m sh k)) ∧ m' = m) := by
  refine qM.intro okX11_taken (Nat.le_of_ble_eq_true rfl) ?_
  refine j_iload_n rfl rfl ?_
  refine j_callS (As := [_]) rfl okX11_isShelf c_X11_369 (ct_X11_isShelf (by omega) (by omega)) rfl rfl (Nat.le_of_ble_eq_true rfl) (by decide) (by decide) ?_
  rintro vq mq ⟨e1, e2⟩
  rw [e1, e2]
  clear e1 e2
  simp only [Option.toList_some, Option.toList_none, List.cons_append, List.nil_append]
  refine j_bif_eq (tgt := 17) rfl (by decide) (fun hb4_1 => ?_) (fun hb4_1 => ?_)
  · skip
    refine j_iconst rfl ?_
    refine j_iret rfl rfl ?_ rfl (Nat.le_refl _)
    unfold FX11_taken
    rw [if_neg hb4_1]
    exact ⟨rfl, rfl⟩
  · skip
    refine j_iload_n rfl rfl ?_
    refine j_if_lt (tgt := 17) rfl (by decide) (by omega) (by omega) (fun hb8_1 => ?_) (fun hb8_1 => ?_)
    · skip
      refine j_iconst rfl ?_
      refine j_iret rfl rfl ?_ rfl (Nat.le_refl _)
      unfold FX11_taken
      rw [if_pos hb4_1, if_pos hb8_1]
      exact ⟨rfl, rfl⟩
    · skip
      refine j_iload_n rfl rfl ?_
      refine j_bipush rfl (by decide) ?_
      refine j_icmp_lt (tgt := 19) rfl (by decide) (by omega) (by omega) (by omega) (by omega) (fun hb14_1 => ?_) (fun hb14_1 => ?_)
      · skip
        refine j_aload_n rfl rfl ?_
        refine j_getR (q := 5) rfl f_X11_30 rfl (hS.lt (by decide)) (hS.k (by decide) (by decide)) (hS.r (by decide)) ?_
        refine j_iload_n rfl rfl ?_
        have hq1 := hS.sh sh (by omega) (by omega)
        refine j_aald (k := 19) (n := 6) (v := (68 + 3 * sh.toNat)) rfl (hS.lt (by decide)) (hS.k (by decide) (by decide)) el19 (hS.n (by decide) (by decide)) (by omega) (by omega) (by decide) hq1.1 ?_
        refine j_astore_n rfl (by decide) ?_
        refine j_aload_n rfl rfl ?_
        refine j_callV (ci := 7) rfl okX7_isEmpty c_X11_173 (ct_X7_isEmpty hq1.2) rfl rfl hq1.2.1 hq1.2.2.1 (by decide) rfl (Nat.le_of_ble_eq_true rfl) (by decide) (by decide) ?_
        rintro vq mq ⟨e1, e2⟩
        rw [e1, e2]
        clear e1 e2
        simp only [Option.toList_some, Option.toList_none, List.cons_append, List.nil_append]
        refine j_bif_eq (tgt := 36) rfl (by decide) (fun hb30_1 => ?_) (fun hb30_1 => ?_)
        · skip
          refine j_aload_n rfl rfl ?_
          refine j_aload_n rfl rfl ?_
          refine j_getI rfl f_X11_408 rfl hq1.2.1 hq1.2.2.1 ?_
          have u38_1 := mi_rng m (68 + 3 * sh.toNat) 2
          refine j_callV (ci := 11) rfl okX11_isBox c_X11_119 (ct_X11_isBox hS hI (by omega) (by omega)) rfl rfl (hS.lt (by decide)) (hS.k (by decide) (by decide)) (by decide) rfl (Nat.le_of_ble_eq_true rfl) (by decide) (by decide) ?_
          rintro vq mq ⟨e1, e2⟩
          rw [e1, e2]
          clear e1 e2
          simp only [Option.toList_some, Option.toList_none, List.cons_append, List.nil_append]
          have w1 := hI.s 0 16 (0) 6 (by decide)
          refine j_bif_eq (tgt := 66) rfl (by decide) (fun hb44_1 => ?_) (fun hb44_1 => ?_)
          · skip
            refine j_bipush rfl (by decide) ?_
            refine j_iret rfl rfl ?_ rfl (Nat.le_refl _)
            unfold FX11_taken
            rw [if_pos hb4_1, if_neg hb8_1, if_pos hb14_1, if_neg hb30_1, if_neg hb44_1]
            exact ⟨rfl, rfl⟩
          · skip
            refine j_aload_n rfl rfl ?_
            refine j_getR (q := 3) rfl f_X11_18 rfl (hS.lt (by decide)) (hS.k (by decide) (by decide)) (hS.r (by decide)) ?_
            refine j_aload_n rfl rfl ?_
            refine j_getI rfl f_X11_408 rfl hq1.2.1 hq1.2.2.1 ?_
            have u52_1 := mi_rng m (68 + 3 * sh.toNat) 2
            have hq2 := hX (mi m (68 + 3 * sh.toNat) 2) (by omega) (by omega)
            have hq2r := hq2.2.2.2.2
            refine j_aald (k := 17) (n := 6) (v := (bx m (mi m (68 + 3 * sh.toNat) 2))) rfl (hS.lt (by decide)) (hS.k (by decide) (by decide)) el17 (hS.n (by decide) (by decide)) (by omega) (by omega) (by decide) hq2.1 ?_
            refine j_getI rfl f_X11_359 rfl hq2.2.1.1 hq2.2.1.2.1 ?_
            have u56_1 := mi_rng m (bx m (mi m (68 + 3 * sh.toNat) 2)) 1
            refine j_iload_n rfl rfl ?_
            refine j_callS (As := [_, _]) rfl okX11_isUnder c_X11_411 (ct_isUnder hT hq2r.2.1 (by omega)) rfl rfl (Nat.le_of_ble_eq_true rfl) (by decide) (by decide) ?_
            rintro vq mq ⟨e1, e2⟩
            rw [e1, e2]
            clear e1 e2
            simp only [Option.toList_some, Option.toList_none, List.cons_append, List.nil_append]
            refine j_bif_ne (tgt := 69) rfl (by decide) (fun hb63_1 => ?_) (fun hb63_1 => ?_)
            · skip
              refine j_aload_n rfl rfl ?_
              refine j_getR (q := 3) rfl f_X11_18 rfl (hS.lt (by decide)) (hS.k (by decide) (by decide)) (hS.r (by decide)) ?_
              refine j_aload_n rfl rfl ?_
              refine j_getI rfl f_X11_408 rfl hq1.2.1 hq1.2.2.1 ?_
              have u74_1 := mi_rng m (68 + 3 * sh.toNat) 2
              have hq3 := hX (mi m (68 + 3 * sh.toNat) 2) (by omega) (by omega)
              have hq3r := hq3.2.2.2.2
              refine j_aald (k := 17) (n := 6) (v := (bx m (mi m (68 + 3 * sh.toNat) 2))) rfl (hS.lt (by decide)) (hS.k (by decide) (by decide)) el17 (hS.n (by decide) (by decide)) (by omega) (by omega) (by decide) hq3.1 ?_
              refine j_getI rfl f_X11_359 rfl hq3.2.1.1 hq3.2.1.2.1 ?_
              have u78_1 := mi_rng m (bx m (mi m (68 + 3 * sh.toNat) 2)) 1
              refine j_iret rfl rfl ?_ rfl (Nat.le_refl _)
              unfold FX11_taken
              rw [if_pos hb4_1, if_neg hb8_1, if_pos hb14_1, if_neg hb30_1, if_pos hb44_1, if_pos hb63_1]
              exact ⟨rfl, rfl⟩
            · skip
              refine j_bipush rfl (by decide) ?_
              refine j_iret rfl rfl ?_ rfl (Nat.le_refl _)
              unfold FX11_taken
              rw [if_pos hb4_1, if_neg hb8_1, if_pos hb14_1, if_neg hb30_1, if_pos hb44_1, if_neg hb63_1]
              exact ⟨rfl, rfl⟩
        · skip
          refine j_bipush rfl (by decide) ?_
          refine j_iret rfl rfl ?_ rfl (Nat.le_refl _)
          unfold FX11_taken
          rw [if_pos hb4_1, if_neg hb8_1, if_pos hb14_1, if_pos hb30_1]
          exact ⟨rfl, rfl⟩
      · skip
        refine j_iconst rfl ?_
        refine j_iret rfl rfl ?_ rfl (Nat.le_refl _)
        unfold FX11_taken
        rw [if_pos hb4_1, if_neg hb8_1, if_neg hb14_1]
        exact ⟨rfl, rfl⟩


/-- whether one of the first n is not 0 -/
def anL (f : Nat → Int) : Nat → Int
  | 0 => 0
  | n + 1 => if f n ≠ 0 then 1 else anL f n
theorem anL_rng (f : Nat → Int) : ∀ n : Nat, 0 ≤ anL f n ∧ anL f n ≤ 1 := by
  intro n
  induction n with
  | zero => exact (by decide : 0 ≤ (0 : Int) ∧ (0 : Int) ≤ 1)
  | succ n ih =>
    unfold anL
    split
    · decide
    · exact ih
def nuF (M : AM) (b : Int) : Nat → Int := fun o => if (o : Int) = b ∨ likeX M o then 0 else 1
theorem nuF_same {m M : AM} (h : SameP m M) (b : Int) : nuF M b = nuF m b := by
  obtain ⟨L, rfl⟩ := h.ex
  rfl
theorem nuF_y {M : AM} {b o : Int} (h : 0 ≤ o) (hl : o = b ∨ likeX M o) : anL (nuF M b) (o + 1).toNat = anL (nuF M b) o.toNat := by
  rw [show (o + 1).toNat = o.toNat + 1 by omega]
  show (if nuF M b o.toNat ≠ 0 then 1 else anL (nuF M b) o.toNat) = _
  rw [if_neg]
  unfold nuF
  rw [show ((o.toNat : Nat) : Int) = o by omega, if_pos hl]
  decide
theorem nuF_n {M : AM} {b o : Int} (h : 0 ≤ o) (hl : ¬ (o = b ∨ likeX M o)) : anL (nuF M b) (o + 1).toNat = 1 := by
  rw [show (o + 1).toNat = o.toNat + 1 by omega]
  show (if nuF M b o.toNat ≠ 0 then 1 else anL (nuF M b) o.toNat) = _
  rw [if_pos]
  unfold nuF
  rw [show ((o.toNat : Nat) : Int) = o by omega, if_neg hl]
  decide
/-- the TICKS from t downwards: the first at which a box stops and another one is unlike -/
def ndL (b f n : Int) : Nat → Int → AM → Int × AM
  | 0, _, N => (-2, N)
  | c + 1, t, N =>
    if anL (nuF (roM (si N 86 47 t) f n) b) (mi (roM (si N 86 47 t) f n) 86 1).toNat = 0 then ndL b f n c (t - 1) (roM (si N 86 47 t) f n)
    else (t, roM (si N 86 47 t) f n)
def neE (m : AM) (b f n : Int) : Int × AM := ndL b f n n.toNat (n - 1) (si (FX12_keepRun (roM (aiM m) f n)) 86 46 b)
/-- needed() of the reference -/
def neeR (m : AM) (b f n : Int) : Int × AM :=
  if (0 ≤ b ∧ b < mi m 86 1) ∧ (0 ≤ f ∧ f < mi m 86 21) ∧ (1 ≤ n ∧ n ≤ 200) then ((neE m b f n).1, aiM (neE m b f n).2) else (-1, m)
theorem ndL_same (b f n : Int) : ∀ (c : Nat) (t : Int) (N M : AM), SameP N M → (ndL b f n c t M).1 = (ndL b f n c t N).1 ∧ SameP (ndL b f n c t N).2 (ndL b f n c t M).2 := by
  intro c
  induction c with
  | zero => intro t N M h; exact ⟨rfl, h⟩
  | succ c ih =>
    intro t N M h
    have g := roM_same (h.si 86 47 t) f n
    simp only [ndL, nuF_same g, g.mi 86 1]
    split
    · exact ih _ _ _ g
    · exact ⟨rfl, g⟩

set_option maxRecDepth 20000 in
set_option maxHeartbeats 4000000 in
theorem lp_needed_78 {G : QW} {M : AM} {b f n t : Int} {Rp : Option Vl → AM → Prop} (hS : St M) (hI : IM M) (hb0 : 0 ≤ b) (hb5 : b ≤ 5) (ht0 : 0 ≤ t) (ht1 : t ≤ 199) (hexit : qJ G mX12_needed { frames := 7, cells := 0, slots := 0, locals := 60 * 7 } (qF G Rp 0 0) 112 [(0, vR 86), (1, vI b), (2, vI f), (3, vI n), (4, vI (if anL (nuF M b) (mi M 86 1).toNat = 0 then -2 else t)), (5, vI t)] [] M 0 0) : ∀ (c : Nat) (o : Int), o + c = mi M 86 1 → 0 ≤ o → qJ G mX12_needed { frames := 7, cells := 0, slots := 0, locals := 60 * 7 } (qF G Rp 0 0) 78 [(0, vR 86), (1, vI b), (2, vI f), (3, vI n), (4, vI (if anL (nuF M b) o.toNat = 0 then -2 else t)), (5, vI t), (6, vI o)] [] M 0 0 := by
  have hbx := hI.s 86 1 0 6 (by decide)
  intro c
  induction c with
  | zero =>
    intro o hc hv0
    have har := anL_rng (nuF M b) o.toNat
    refine j_iload rfl rfl ?_
    refine j_aload_n rfl rfl ?_
    refine j_getI rfl f_X12_191 rfl (hS.lt (by decide)) (hS.k (by decide) (by decide)) ?_
    have u81_1 := hI.s 86 1 (0) 6 (by decide)
    refine j_icmp_ge (tgt := 112) rfl (by decide) (by omega) (by omega) (by omega) (by omega) (fun hb84_1 => ?_) (fun hb84_1 => ?_)
    · skip
      rw [show o = mi M 86 1 by omega]
      refine j_loc (ls' := [(0, vR 86), (1, vI b), (2, vI f), (3, vI n), (4, vI (if anL (nuF M b) (mi M 86 1).toNat = 0 then -2 else t)), (5, vI t)]) rfl ?_
      exact hexit
    · skip
      exfalso; omega
  | succ c ih =>
    intro o hc hv0
    have har := anL_rng (nuF M b) o.toNat
    refine j_iload rfl rfl ?_
    refine j_aload_n rfl rfl ?_
    refine j_getI rfl f_X12_191 rfl (hS.lt (by decide)) (hS.k (by decide) (by decide)) ?_
    have u81_1 := hI.s 86 1 (0) 6 (by decide)
    refine j_icmp_ge (tgt := 112) rfl (by decide) (by omega) (by omega) (by omega) (by omega) (fun hb84_1 => ?_) (fun hb84_1 => ?_)
    · skip
      exfalso; omega
    · skip
      refine j_iload rfl rfl ?_
      refine j_iload_n rfl rfl ?_
      refine j_icmp_eq (tgt := 106) rfl (by decide) (by omega) (by omega) (by omega) (by omega) (fun hb90_1 => ?_) (fun hb90_1 => ?_)
      · skip
        refine j_iinc rfl rfl (by decide) ?_
        refine j_goto (tgt := 78) rfl (by decide) ?_
        have hu : (if anL (nuF M b) o.toNat = 0 then -2 else t) = (if anL (nuF M b) (o + 1).toNat = 0 then -2 else t) := by first | (rw [nuF_n hv0 (fun q => q.elim (fun q => by omega) hb90_1)]; exact (if_neg (by decide)).symm) | rw [nuF_y hv0 (by first | exact Or.inl (by omega) | exact Or.inr (Decidable.of_not_not hb90_1))]
        refine j_loc (ls' := [(0, vR 86), (1, vI b), (2, vI f), (3, vI n), (4, vI (if anL (nuF M b) (o + 1).toNat = 0 then -2 else t)), (5, vI t), (6, vI (o + 1))]) (by rw [← hu]; rfl) ?_
        exact ih (o + 1) (by omega) (by omega)
      · skip
        refine j_aload_n rfl rfl ?_
        refine j_iload rfl rfl ?_
        refine j_callV (ci := 12) rfl okX12_isUnlike c_X12_446 (ct_X12_isUnlike hS hI (by omega) (by omega)) rfl rfl (hS.lt (by decide)) (hS.k (by decide) (by decide)) (by decide) rfl (Nat.le_of_ble_eq_true rfl) (by decide) (by decide) ?_
        rintro vq mq ⟨e1, e2⟩
        rw [e1, e2]
        clear e1 e2
        simp only [Option.toList_some, Option.toList_none, List.cons_append, List.nil_append]
        refine j_bif_eq (tgt := 106) rfl (by decide) (fun hb99_1 => ?_) (fun hb99_1 => ?_)
        · skip
          refine j_iinc rfl rfl (by decide) ?_
          refine j_goto (tgt := 78) rfl (by decide) ?_
          have hu : (if anL (nuF M b) o.toNat = 0 then -2 else t) = (if anL (nuF M b) (o + 1).toNat = 0 then -2 else t) := by first | (rw [nuF_n hv0 (fun q => q.elim (fun q => by omega) hb99_1)]; exact (if_neg (by decide)).symm) | rw [nuF_y hv0 (by first | exact Or.inl (by omega) | exact Or.inr (Decidable.of_not_not hb99_1))]
          refine j_loc (ls' := [(0, vR 86), (1, vI b), (2, vI f), (3, vI n), (4, vI (if anL (nuF M b) (o + 1).toNat = 0 then -2 else t)), (5, vI t), (6, vI (o + 1))]) (by rw [← hu]; rfl) ?_
          exact ih (o + 1) (by omega) (by omega)
        · skip
          refine j_iload rfl rfl ?_
          refine j_istore rfl (by decide) ?_
          refine j_iinc rfl rfl (by decide) ?_
          refine j_goto (tgt := 78) rfl (by decide) ?_
          have hu : t = (if anL (nuF M b) (o + 1).toNat = 0 then -2 else t) := by first | (rw [nuF_n hv0 (fun q => q.elim (fun q => by omega) hb99_1)]; exact (if_neg (by decide)).symm) | rw [nuF_y hv0 (by first | exact Or.inl (by omega) | exact Or.inr (Decidable.of_not_not hb99_1))]
          refine j_loc (ls' := [(0, vR 86), (1, vI b), (2, vI f), (3, vI n), (4, vI (if anL (nuF M b) (o + 1).toNat = 0 then -2 else t)), (5, vI t), (6, vI (o + 1))]) (by rw [← hu]; rfl) ?_
          exact ih (o + 1) (by omega) (by omega)

theorem lp_needed_118 {G : QW} {M : AM} {b f n t q : Int} {Rp : Option Vl → AM → Prop} (hRM : RI M) (hfin : Rp (some (vI q)) (aiM M)) : qJ G mX12_needed { frames := 7, cells := 0, slots := 0, locals := 60 * 7 } (qF G Rp 0 0) 118 [(0, vR 86), (1, vI b), (2, vI f), (3, vI n), (4, vI q), (5, vI t)] [] M 0 0 := by
  refine j_aload_n rfl rfl ?_
  refine j_callV (ci := 12) rfl okX12_asItIs c_X12_386 (ct_X12_asIs hRM) rfl rfl (hRM.s.lt (by decide)) (hRM.s.k (by decide) (by decide)) (by decide) rfl (Nat.le_of_ble_eq_true rfl) (by decide) (by decide) ?_
  rintro vq mq ⟨e1, e2⟩
  rw [e1, e2]
  clear e1 e2
  simp only [Option.toList_some, Option.toList_none, List.cons_append, List.nil_append]
  refine j_iload rfl rfl ?_
  refine j_iret rfl rfl ?_ rfl (Nat.le_refl _)
  exact hfin

set_option maxRecDepth 20000 in
set_option maxHeartbeats 4000000 in
theorem lp_needed_53 {G : QW} {b f n : Int} {E : Int × AM} (hb0 : 0 ≤ b) (hb5 : b ≤ 5) (hf0 : 0 ≤ f) (hf7 : f ≤ 7) (hn0 : 1 ≤ n) (hn : n ≤ 200) : ∀ (c : Nat) (t : Int) (N M : AM), t + 1 = c → t ≤ 199 → RI N → SameP N M → ndL b f n c t N = E → qJ G mX12_needed { frames := 7, cells := 0, slots := 0, locals := 60 * 7 } (qF G (fun r m' => r = some (vI E.1) ∧ SameP (aiM E.2) m') 0 0) 53 [(0, vR 86), (1, vI b), (2, vI f), (3, vI n), (4, vI (-2)), (5, vI t)] [] M 0 0 := by
  intro c
  induction c with
  | zero =>
    intro t N M hc ht1 hRN hs hE
    have hRM := hRN.of hs
    have hE : (-2, N) = E := hE
    refine j_iload rfl rfl ?_
    refine j_if_lt (tgt := 118) rfl (by decide) (by omega) (by omega) (fun hb55_1 => ?_) (fun hb55_1 => ?_)
    · skip
      subst hE
      refine lp_needed_118 hRM ?_
      exact ⟨rfl, hs.asIs⟩
    · skip
      exfalso; omega
  | succ c ih =>
    intro t N M hc ht1 hRN hs hE
    have ht0 : 0 ≤ t := by omega
    have hRM := hRN.of hs
    simp only [ndL] at hE
    refine j_iload rfl rfl ?_
    refine j_if_lt (tgt := 118) rfl (by decide) (by omega) (by omega) (fun hb55_1 => ?_) (fun hb55_1 => ?_)
    · skip
      exfalso; omega
    · skip
      refine j_iload rfl rfl ?_
      refine j_if_ge (tgt := 118) rfl (by decide) (by omega) (by omega) (fun hb60_1 => ?_) (fun hb60_1 => ?_)
      · skip
        exfalso; omega
      · skip
        refine j_aload_n rfl rfl ?_
        refine j_iload rfl rfl ?_
        refine j_putI rfl f_X12_370 rfl (hRM.s.lt (by decide)) (hRM.s.k (by decide) (by decide)) ?_
        refine j_aload_n rfl rfl ?_
        refine j_iload_n rfl rfl ?_
        refine j_iload_n rfl rfl ?_
        refine j_callV (ci := 12) rfl okX12_runOf c_X12_389 (ct_X12_runOfI (hRM.own (k := 47) t (by decide) (by decide)) (by omega) (by omega) (by omega) (by omega)) rfl rfl (hRM.s.lt (by decide)) (hRM.s.k (by decide) (by decide)) (by decide) rfl (Nat.le_of_ble_eq_true rfl) (by decide) (by decide) ?_
        rintro vq M2 ⟨e1, hs2⟩
        rw [e1]
        clear e1
        simp only [Option.toList_some, Option.toList_none, List.cons_append, List.nil_append]
        have g : SameP (roM (si N 86 47 t) f n) M2 := (roM_same (hs.si 86 47 t) f n).trans hs2
        have hRN2 : RI (roM (si N 86 47 t) f n) := (hRN.own (k := 47) t (by decide) (by decide)).run (by omega) (by omega)
        have hR2 := hRN2.of g
        refine j_iconst rfl ?_
        refine j_istore rfl (by decide) ?_
        refine j_loc (ls' := [(0, vR 86), (1, vI b), (2, vI f), (3, vI n), (4, vI (-2)), (5, vI t), (6, vI 0)]) rfl ?_
        have hbx := hR2.i.s 86 1 0 6 (by decide)
        refine lp_needed_78 hR2.s hR2.i hb0 hb5 ht0 (by omega) ?_ (mi M2 86 1).toNat 0 (by omega) (Int.le_refl 0)
        have ha : anL (nuF M2 b) (mi M2 86 1).toNat = anL (nuF (roM (si N 86 47 t) f n) b) (mi (roM (si N 86 47 t) f n) 86 1).toNat := by rw [nuF_same g, g.mi 86 1]
        rw [ha]
        by_cases hz : anL (nuF (roM (si N 86 47 t) f n) b) (mi (roM (si N 86 47 t) f n) 86 1).toNat = 0
        · rw [if_pos hz] at hE ⊢
          skip
          refine j_iinc rfl rfl (by decide) ?_
          refine j_goto (tgt := 53) rfl (by decide) ?_
          refine j_loc (ls' := [(0, vR 86), (1, vI b), (2, vI f), (3, vI n), (4, vI (-2)), (5, vI (t - 1))]) rfl ?_
          exact ih (t - 1) _ M2 (by omega) (by omega) hRN2 g hE
        · rw [if_neg hz] at hE ⊢
          subst hE
          refine j_iinc rfl rfl (by decide) ?_
          refine j_goto (tgt := 53) rfl (by decide) ?_
          refine j_iload rfl rfl ?_
          refine j_if_lt (tgt := 118) rfl (by decide) (by omega) (by omega) (fun hb55_2 => ?_) (fun hb55_2 => ?_)
          · skip
            refine j_loc (ls' := [(0, vR 86), (1, vI b), (2, vI f), (3, vI n), (4, vI t), (5, vI (t + (-1)))]) rfl ?_
            refine lp_needed_118 hR2 ?_
            exact ⟨rfl, g.asIs⟩
          · skip
            refine j_iload rfl rfl ?_
            refine j_if_ge (tgt := 118) rfl (by decide) (by omega) (by omega) (fun hb60_2 => ?_) (fun hb60_2 => ?_)
            · skip
              refine j_loc (ls' := [(0, vR 86), (1, vI b), (2, vI f), (3, vI n), (4, vI t), (5, vI (t + (-1)))]) rfl ?_
              refine lp_needed_118 hR2 ?_
              exact ⟨rfl, g.asIs⟩
            · skip
              exfalso; omega

set_option maxRecDepth 20000 in
set_option maxHeartbeats 4000000 in
theorem ct_X12_needed {G : QW} {m : AM} {b f n : Int} (h : RI m) (hb1 : -2147483648 ≤ b) (hb2 : b < 2147483648) (hf1 : -2147483648 ≤ f) (hf2 : f < 2147483648) (hn1 : -2147483648 ≤ n) (hn2 : n < 2147483648) : qM G mX12_needed 7 0 0 [vR 86, vI b, vI f, vI n] m (fun r m' => r = some (vI (neeR m b f n).1) ∧ SameP (neeR m b f n).2 m') := by
  refine qM.intro okX12_needed (Nat.le_of_ble_eq_true rfl) ?_
  have hS := h.s
  have hI := h.i
  have hfl := hI.s 86 21 0 8 (by decide)
  have hbx := hI.s 86 1 0 6 (by decide)
  refine j_aload_n rfl rfl ?_
  refine j_iload_n rfl rfl ?_
  refine j_callV (ci := 12) rfl okX12_isBox c_X12_198 (ct_X12_isBox hS hI (by omega) (by omega)) rfl rfl (hS.lt (by decide)) (hS.k (by decide) (by decide)) (by decide) rfl (Nat.le_of_ble_eq_true rfl) (by decide) (by decide) ?_
  rintro vq mq ⟨e1, e2⟩
  rw [e1, e2]
  clear e1 e2
  simp only [Option.toList_some, Option.toList_none, List.cons_append, List.nil_append]
  have w1 := hI.s 86 1 (0) 6 (by decide)
  refine j_bif_eq (tgt := 23) rfl (by decide) (fun hb5_1 => ?_) (fun hb5_1 => ?_)
  · skip
    refine j_iconst rfl ?_
    refine j_iret rfl rfl ?_ rfl (Nat.le_refl _)
    exact ⟨by unfold neeR; rw [if_neg (by omega)], by unfold neeR; rw [if_neg (by omega)]; exact SameP.rf m⟩
  · skip
    refine j_aload_n rfl rfl ?_
    refine j_iload_n rfl rfl ?_
    refine j_callV (ci := 12) rfl okX12_isFlight c_X12_270 (ct_X12_isFlight hS hI (by omega) (by omega)) rfl rfl (hS.lt (by decide)) (hS.k (by decide) (by decide)) (by decide) rfl (Nat.le_of_ble_eq_true rfl) (by decide) (by decide) ?_
    rintro vq mq ⟨e1, e2⟩
    rw [e1, e2]
    clear e1 e2
    simp only [Option.toList_some, Option.toList_none, List.cons_append, List.nil_append]
    have w2 := hI.s 86 21 (0) 8 (by decide)
    refine j_bif_eq (tgt := 23) rfl (by decide) (fun hb13_1 => ?_) (fun hb13_1 => ?_)
    · skip
      refine j_iconst rfl ?_
      refine j_iret rfl rfl ?_ rfl (Nat.le_refl _)
      exact ⟨by unfold neeR; rw [if_neg (by omega)], by unfold neeR; rw [if_neg (by omega)]; exact SameP.rf m⟩
    · skip
      refine j_iload_n rfl rfl ?_
      refine j_callS (As := [_]) rfl okX12_isTicks c_X12_383 (ct_X12_isTicks (by omega) (by omega)) rfl rfl (Nat.le_of_ble_eq_true rfl) (by decide) (by decide) ?_
      rintro vq mq ⟨e1, e2⟩
      rw [e1, e2]
      clear e1 e2
      simp only [Option.toList_some, Option.toList_none, List.cons_append, List.nil_append]
      refine j_bif_ne (tgt := 25) rfl (by decide) (fun hb20_1 => ?_) (fun hb20_1 => ?_)
      · skip
        refine j_aload_n rfl rfl ?_
        refine j_callV (ci := 12) rfl okX12_asItIs c_X12_386 (ct_X12_asIs h) rfl rfl (hS.lt (by decide)) (hS.k (by decide) (by decide)) (by decide) rfl (Nat.le_of_ble_eq_true rfl) (by decide) (by decide) ?_
        rintro vq mq ⟨e1, e2⟩
        rw [e1, e2]
        clear e1 e2
        simp only [Option.toList_some, Option.toList_none, List.cons_append, List.nil_append]
        refine j_aload_n rfl rfl ?_
        refine j_iload_n rfl rfl ?_
        refine j_iload_n rfl rfl ?_
        refine j_callV (ci := 12) rfl okX12_runOf c_X12_389 (ct_X12_runOfI h.asIs (by omega) (by omega) (by omega) (by omega)) rfl rfl (hS.lt (by decide)) (hS.k (by decide) (by decide)) (by decide) rfl (Nat.le_of_ble_eq_true rfl) (by decide) (by decide) ?_
        rintro vq M1 ⟨e1, hs1⟩
        rw [e1]
        clear e1
        simp only [Option.toList_some, Option.toList_none, List.cons_append, List.nil_append]
        have hR1 := (h.asIs.run (f := f) (n := n) (by omega) (by omega)).of hs1
        refine j_aload_n rfl rfl ?_
        refine j_callV (ci := 12) rfl okX12_keepRun c_X12_443 (ct_X12_keepRun hR1.s hR1.i hR1.2.1.1) rfl rfl (hR1.s.lt (by decide)) (hR1.s.k (by decide) (by decide)) (by decide) rfl (Nat.le_of_ble_eq_true rfl) (by decide) (by decide) ?_
        rintro vq mq ⟨e1, e2⟩
        rw [e1, e2]
        clear e1 e2
        simp only [Option.toList_some, Option.toList_none, List.cons_append, List.nil_append]
        refine j_aload_n rfl rfl ?_
        refine j_iload_n rfl rfl ?_
        refine j_putI rfl f_X12_306 rfl (hR1.s.lt (by decide)) (hR1.s.k (by decide) (by decide)) ?_
        refine j_bipush rfl (by decide) ?_
        refine j_istore rfl (by decide) ?_
        refine j_iload_n rfl rfl ?_
        refine j_iconst rfl ?_
        refine j_isub rfl ?_
        refine j_istore rfl (by decide) ?_
        refine j_loc (ls' := [(0, vR 86), (1, vI b), (2, vI f), (3, vI n), (4, vI (-2)), (5, vI (n - 1))]) rfl ?_
        have hR2 : RI (si (FX12_keepRun M1) 86 46 b) := hR1.keepR.own (k := 46) b (by decide) (by decide)
        have hRr : RI (si (FX12_keepRun (roM (aiM m) f n)) 86 46 b) := (h.asIs.run (by omega) (by omega)).keepR.own (k := 46) b (by decide) (by decide)
        have e : neeR m b f n = ((neE m b f n).1, aiM (neE m b f n).2) := by unfold neeR; rw [if_pos (by omega)]
        rw [e]
        exact lp_needed_53 (E := neE m b f n) (by omega) (by omega) (by omega) (by omega) (by omega) (by omega) n.toNat (n - 1) _ _ (by omega) (by omega) hRr ((hs1.keepR).si _ _ _) rfl
      · skip
        refine j_iconst rfl ?_
        refine j_iret rfl rfl ?_ rfl (Nat.le_refl _)
        exact ⟨by unfold neeR; rw [if_neg (by omega)], by unfold neeR; rw [if_neg (by omega)]; exact SameP.rf m⟩


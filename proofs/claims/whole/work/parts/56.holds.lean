/-- whether a paper holds on machine k, with all on which it stands, and the memory -/
def hoL (k : Int) : Nat → Int → AM → Int × AM
  | 0, _, N => (1, N)
  | x + 1, p, N =>
    if (if mi N 136 (2 * p).toNat ≥ 0 then hoL k x (mi N 136 (2 * p).toNat) N else (1, N)).1 = 0 then (0, (if mi N 136 (2 * p).toNat ≥ 0 then hoL k x (mi N 136 (2 * p).toNat) N else (1, N)).2)
    else if (if mi (if mi N 136 (2 * p).toNat ≥ 0 then hoL k x (mi N 136 (2 * p).toNat) N else (1, N)).2 136 ((2 * p) + 1).toNat ≥ 0 then hoL k x (mi (if mi N 136 (2 * p).toNat ≥ 0 then hoL k x (mi N 136 (2 * p).toNat) N else (1, N)).2 136 ((2 * p) + 1).toNat) (if mi N 136 (2 * p).toNat ≥ 0 then hoL k x (mi N 136 (2 * p).toNat) N else (1, N)).2 else (1, (if mi N 136 (2 * p).toNat ≥ 0 then hoL k x (mi N 136 (2 * p).toNat) N else (1, N)).2)).1 = 0 then (0, (if mi (if mi N 136 (2 * p).toNat ≥ 0 then hoL k x (mi N 136 (2 * p).toNat) N else (1, N)).2 136 ((2 * p) + 1).toNat ≥ 0 then hoL k x (mi (if mi N 136 (2 * p).toNat ≥ 0 then hoL k x (mi N 136 (2 * p).toNat) N else (1, N)).2 136 ((2 * p) + 1).toNat) (if mi N 136 (2 * p).toNat ≥ 0 then hoL k x (mi N 136 (2 * p).toNat) N else (1, N)).2 else (1, (if mi N 136 (2 * p).toNat ≥ 0 then hoL k x (mi N 136 (2 * p).toNat) N else (1, N)).2)).2)
    else soM (if mi (if mi N 136 (2 * p).toNat ≥ 0 then hoL k x (mi N 136 (2 * p).toNat) N else (1, N)).2 136 ((2 * p) + 1).toNat ≥ 0 then hoL k x (mi (if mi N 136 (2 * p).toNat ≥ 0 then hoL k x (mi N 136 (2 * p).toNat) N else (1, N)).2 136 ((2 * p) + 1).toNat) (if mi N 136 (2 * p).toNat ≥ 0 then hoL k x (mi N 136 (2 * p).toNat) N else (1, N)).2 else (1, (if mi N 136 (2 * p).toNat ≥ 0 then hoL k x (mi N 136 (2 * p).toNat) N else (1, N)).2)).2 k p
/-- one paper on which another one stands (below 0: none) -/
def hoS (k : Int) (x : Nat) (q : Int) (N : AM) : Int × AM := if q ≥ 0 then hoL k x q N else (1, N)
def hoA (k : Int) (x : Nat) (p : Int) (N : AM) : Int × AM := hoS k x (mi N 136 (2 * p).toNat) N
def hoB (k : Int) (x : Nat) (p : Int) (N : AM) : Int × AM := hoS k x (mi N 136 ((2 * p) + 1).toNat) N
theorem hoL_up (k : Int) (x : Nat) (p : Int) (N : AM) : hoL k (x + 1) p N = if (hoA k x p N).1 = 0 then (0, (hoA k x p N).2) else if (hoB k x p (hoA k x p N).2).1 = 0 then (0, (hoB k x p (hoA k x p N).2).2) else soM (hoB k x p (hoA k x p N).2).2 k p := rfl
theorem hoL_keep (k : Int) : ∀ (x : Nat) (p : Int) (m : AM), RA m → p < mi m 86 70 → 0 ≤ p → RA (hoL k x p m).2 ∧ FQ m (hoL k x p m).2 ∧ 0 ≤ (hoL k x p m).1 ∧ (hoL k x p m).1 ≤ 1 := by
  intro x
  induction x with
  | zero => intro p m h _ _; exact ⟨h, FQ.rf m, by show (0 : Int) ≤ 1; decide, Int.le_refl _⟩
  | succ x ih =>
    intro p m h h1 h0
    have hs : ∀ (q : Int) (N : AM), RA N → FQ m N → q < p → RA (hoS k x q N).2 ∧ FQ m (hoS k x q N).2 ∧ 0 ≤ (hoS k x q N).1 ∧ (hoS k x q N).1 ≤ 1 := by
      intro q N hN hf hq
      unfold hoS
      split
      · next q0 =>
        have e70 : mi N 86 70 = mi m 86 70 := hf.cell (by decide) (by decide) (by decide)
        have i := ih q N hN (by omega) q0
        exact ⟨i.1, hf.trans i.2.1, i.2.2⟩
      · exact ⟨hN, hf, by show (0 : Int) ≤ 1; decide, Int.le_refl _⟩
    have g := h.2 p h0 h1
    have A := hs (mi m 136 (2 * p).toNat) m h (FQ.rf m) g.2.2.1
    have eA : mi (hoA k x p m).2 136 ((2 * p) + 1).toNat = mi m 136 ((2 * p) + 1).toNat := A.2.1.cell (by decide) (by decide) (by omega)
    have B := hs (mi (hoA k x p m).2 136 ((2 * p) + 1).toNat) (hoA k x p m).2 A.1 A.2.1 (by rw [eA]; exact g.2.2.2)
    rw [hoL_up]
    split
    · exact ⟨A.1, A.2.1, Int.le_refl _, by show (0 : Int) ≤ 1; decide⟩
    · split
      · exact ⟨B.1, B.2.1, Int.le_refl _, by show (0 : Int) ≤ 1; decide⟩
      · have e70 : mi (hoB k x p (hoA k x p m).2).2 86 70 = mi m 86 70 := B.2.1.cell (by decide) (by decide) (by decide)
        have S := soM_keep (k := k) B.1 h0 (by rw [show mi (hoS k x (mi (hoA k x p m).2 136 ((2 * p) + 1).toNat) (hoA k x p m).2).2 86 70 = mi m 86 70 from e70]; exact h1)
        exact ⟨S.1, B.2.1.trans S.2.1, S.2.2⟩
theorem hoL_same (k : Int) : ∀ (x : Nat) (p : Int) (N M : AM), SameP N M → (hoL k x p M).1 = (hoL k x p N).1 ∧ SameP (hoL k x p N).2 (hoL k x p M).2 := by
  intro x
  induction x with
  | zero => intro p N M h; exact ⟨rfl, h⟩
  | succ x ih =>
    intro p N M h
    have hs : ∀ (q : Int) (N M : AM), SameP N M → (hoS k x q M).1 = (hoS k x q N).1 ∧ SameP (hoS k x q N).2 (hoS k x q M).2 := by
      intro q N M h
      unfold hoS
      split
      · exact ih q N M h
      · exact ⟨rfl, h⟩
    have A : (hoA k x p M).1 = (hoA k x p N).1 ∧ SameP (hoA k x p N).2 (hoA k x p M).2 := by
      unfold hoA
      rw [h.mi 136]
      exact hs _ _ _ h
    have B : (hoB k x p (hoA k x p M).2).1 = (hoB k x p (hoA k x p N).2).1 ∧ SameP (hoB k x p (hoA k x p N).2).2 (hoB k x p (hoA k x p M).2).2 := by
      unfold hoB
      rw [A.2.mi 136]
      exact hs _ _ _ A.2
    have S := soM_same B.2 k p
    rw [hoL_up, hoL_up, A.1, B.1]
    split
    · exact ⟨rfl, A.2⟩
    · split
      · exact ⟨rfl, B.2⟩
      · exact S

set_option maxRecDepth 20000 in
set_option maxHeartbeats 4000000 in
theorem ct_X12_holdsForL {G : QW} {k : Int} (hk0 : 0 ≤ k) (hk1 : k ≤ 1) : ∀ (x : Nat) (p : Int) (m : AM), RA m → 0 ≤ p → p < x → p < mi m 86 70 → qM G mX12_holdsFor (8 + p.toNat) 0 0 [vR 86, vI k, vI p] m (fun r m' => r = some (vI (hoL k x p m).1) ∧ SameP (hoL k x p m).2 m') := by
  intro x
  induction x with
  | zero => intro p m _ h0 hx _; exact absurd hx (by omega)
  | succ x ih =>
    intro p m h h0 hx h1
    refine qM.intro okX12_holdsFor (Nat.le_of_ble_eq_true rfl) ?_
    have hRB : RB ({ frames := 8 + p.toNat, cells := 0, slots := 0, locals := 60 * (8 + p.toNat) } : Room) (8 + p.toNat) := ⟨Nat.le_refl _, Nat.le_refl _⟩
    have hpp := h.1.1.i.s 86 70 0 20 (by decide)
    have g := h.2 p h0 h1
    have kA := fun (q : Int) (hq : q < p) => hoL_keep k x q m h (by omega)
    have hA : RA (hoA k x p m).2 ∧ FQ m (hoA k x p m).2 ∧ 0 ≤ (hoA k x p m).1 ∧ (hoA k x p m).1 ≤ 1 := by
      unfold hoA hoS
      split
      · next q => exact kA _ g.2.2.1 q
      · exact ⟨h, FQ.rf m, by show (0 : Int) ≤ 1; decide, Int.le_refl _⟩
    have eA : mi (hoA k x p m).2 136 ((2 * p) + 1).toNat = mi m 136 ((2 * p) + 1).toNat := hA.2.1.cell (by decide) (by decide) (by omega)
    have eA70 : mi (hoA k x p m).2 86 70 = mi m 86 70 := hA.2.1.cell (by decide) (by decide) (by decide)
    have hBk : RA (hoB k x p (hoA k x p m).2).2 ∧ FQ m (hoB k x p (hoA k x p m).2).2 ∧ 0 ≤ (hoB k x p (hoA k x p m).2).1 ∧ (hoB k x p (hoA k x p m).2).1 ≤ 1 := by
      unfold hoB hoS
      split
      · next q =>
        have i := hoL_keep k x _ _ hA.1 (by rw [eA, eA70]; omega) q
        exact ⟨i.1, hA.2.1.trans i.2.1, i.2.2⟩
      · exact ⟨hA.1, hA.2.1, by show (0 : Int) ≤ 1; decide, Int.le_refl _⟩
    have hB := hBk.1
    have eB70 : mi (hoB k x p (hoA k x p m).2).2 86 70 = mi m 86 70 := hBk.2.1.cell (by decide) (by decide) (by decide)
    generalize hEE : hoL k (x + 1) p m = E
    have hE : (if (hoA k x p m).1 = 0 then (0, (hoA k x p m).2) else if (hoB k x p (hoA k x p m).2).1 = 0 then (0, (hoB k x p (hoA k x p m).2).2) else soM (hoB k x p (hoA k x p m).2).2 k p) = E := hEE
    have J3 : ∀ M, SameP (hoB k x p (hoA k x p m).2).2 M → (hoB k x p (hoA k x p m).2).1 ≠ 0 → (hoA k x p m).1 ≠ 0 → qJ G mX12_holdsFor { frames := 8 + p.toNat, cells := 0, slots := 0, locals := 60 * (8 + p.toNat) } (qF G (fun r m' => r = some (vI E.1) ∧ SameP E.2 m') 0 0) 4 [(0, vR 86), (1, vI k), (2, vI p), (3, vI (((2 * p) + 1) + 1))] [] M 0 0 := by
      intro M hsB hB0 hA0
      have hMA := hB.of hsB
      have e70 : mi M 86 70 = mi m 86 70 := (hsB.mi 86 70).trans eB70
      rw [if_neg hA0, if_neg hB0] at hE
      refine j_iload_n rfl rfl ?_
      refine j_iconst rfl ?_
      refine j_iload_n rfl rfl ?_
      refine j_imul rfl ?_
      refine j_iconst rfl ?_
      refine j_iadd rfl ?_
      refine j_icmp_ge (tgt := 44) rfl (by decide) (by omega) (by omega) (by omega) (by omega) (fun hb10_1 => ?_) (fun hb10_1 => ?_)
      · skip
        refine j_aload_n rfl rfl ?_
        refine j_iload_n rfl rfl ?_
        refine j_iload_n rfl rfl ?_
        refine j_callV (ci := 12) rfl okX12_isSo c_X12_467 (ct_X12_isSo hMA hk0 hk1 h0 (by omega)) rfl rfl (hMA.1.1.s.lt (by decide)) (hMA.1.1.s.k (by decide) (by decide)) (by decide) rfl (Nat.le_of_ble_eq_true rfl) (RB.call hRB (by omega) (by decide)) ⟨Nat.le_refl _, Nat.le_refl _⟩ ?_
        rintro vq M9 ⟨e1, hs9⟩
        rw [e1]
        clear e1
        have q9 := soM_same hsB k p
        rw [q9.1]
        have hs9 := q9.2.trans hs9
        have q10 := (soM_keep (k := k) hB h0 (by rw [eB70]; exact h1)).2.2
        simp only [Option.toList_some, Option.toList_none, List.cons_append, List.nil_append]
        refine j_zret rfl rfl (by omega) ?_ rfl (Nat.le_refl _)
        exact ⟨congrArg some (congrArg vI (congrArg Prod.fst hE)), by rw [← hE]; exact hs9⟩
      · skip
        exfalso; omega
    have J2 : ∀ M, SameP (hoA k x p m).2 M → (hoA k x p m).1 ≠ 0 → qJ G mX12_holdsFor { frames := 8 + p.toNat, cells := 0, slots := 0, locals := 60 * (8 + p.toNat) } (qF G (fun r m' => r = some (vI E.1) ∧ SameP E.2 m') 0 0) 4 [(0, vR 86), (1, vI k), (2, vI p), (3, vI ((2 * p) + 1))] [] M 0 0 := by
      intro M hs hA0
      have J3 := fun M2 q1 q2 => J3 M2 q1 q2 hA0
      have hMA := hA.1.of hs
      have e70 : mi M 86 70 = mi m 86 70 := (hs.mi 86 70).trans eA70
      have e136 : mi M 136 ((2 * p) + 1).toNat = mi (hoA k x p m).2 136 ((2 * p) + 1).toNat := hs.mi 136 _
      have eB1 := hBk.2.2
      refine j_iload_n rfl rfl ?_
      refine j_iconst rfl ?_
      refine j_iload_n rfl rfl ?_
      refine j_imul rfl ?_
      refine j_iconst rfl ?_
      refine j_iadd rfl ?_
      refine j_icmp_ge (tgt := 44) rfl (by decide) (by omega) (by omega) (by omega) (by omega) (fun hb10_1 => ?_) (fun hb10_1 => ?_)
      · skip
        exfalso; omega
      · skip
        refine j_aload_n rfl rfl ?_
        refine j_getR (q := 136) rfl f_X12_160 rfl (hMA.1.1.s.lt (by decide)) (hMA.1.1.s.k (by decide) (by decide)) (hMA.1.1.s.r (by decide)) ?_
        refine j_iload_n rfl rfl ?_
        refine j_iald (n := 40) rfl (hMA.1.1.s.lt (by decide)) (hMA.1.1.s.k (by decide) (by decide)) (hMA.1.1.s.n (by decide) (by decide)) (by omega) (by omega) (by decide) ?_
        have u18_1 := hMA.1.1.i.a 136 (-1) 19 (by decide) ((2 * p) + 1).toNat
        refine j_if_lt (tgt := 38) rfl (by decide) (by omega) (by omega) (fun hb19_1 => ?_) (fun hb19_1 => ?_)
        · skip
          refine j_iinc rfl rfl (by decide) ?_
          refine j_goto (tgt := 4) rfl (by decide) ?_
          refine j_loc (ls' := [(0, vR 86), (1, vI k), (2, vI p), (3, vI (((2 * p) + 1) + 1))]) rfl ?_
          have hR : (hoB k x p (hoA k x p m).2) = (1, (hoA k x p m).2) := if_neg (by omega)
          exact J3 M (by rw [hR]; exact hs) (by rw [hR]; exact (by decide : (1 : Int) ≠ 0))
        · skip
          refine j_aload_n rfl rfl ?_
          refine j_iload_n rfl rfl ?_
          refine j_aload_n rfl rfl ?_
          refine j_getR (q := 136) rfl f_X12_160 rfl (hMA.1.1.s.lt (by decide)) (hMA.1.1.s.k (by decide) (by decide)) (hMA.1.1.s.r (by decide)) ?_
          refine j_iload_n rfl rfl ?_
          refine j_iald (n := 40) rfl (hMA.1.1.s.lt (by decide)) (hMA.1.1.s.k (by decide) (by decide)) (hMA.1.1.s.n (by decide) (by decide)) (by omega) (by omega) (by decide) ?_
          have u29_1 := hMA.1.1.i.a 136 (-1) 19 (by decide) ((2 * p) + 1).toNat
          refine j_callV (ci := 12) rfl okX12_holdsFor c_X12_464 (ih _ _ hMA (by omega) (by omega) (by omega)) rfl rfl (hMA.1.1.s.lt (by decide)) (hMA.1.1.s.k (by decide) (by decide)) (by decide) rfl (Nat.le_of_ble_eq_true rfl) (RB.call hRB (by omega) (by decide)) ⟨Nat.le_refl _, Nat.le_refl _⟩ ?_
          rintro vq M3 ⟨e1, hs3⟩
          rw [e1]
          clear e1
          have q3 := hoL_same k x (mi M 136 ((2 * p) + 1).toNat) _ _ hs
          have hR : hoL k x (mi M 136 ((2 * p) + 1).toNat) (hoA k x p m).2 = (hoB k x p (hoA k x p m).2) := by rw [e136]; exact (if_pos (by omega)).symm
          rw [hR] at q3
          rw [q3.1]
          have hs3 := q3.2.trans hs3
          simp only [Option.toList_some, Option.toList_none, List.cons_append, List.nil_append]
          refine j_if_ne (tgt := 38) rfl (by decide) (by omega) (by omega) (fun hb33_1 => ?_) (fun hb33_1 => ?_)
          · skip
            refine j_iinc rfl rfl (by decide) ?_
            refine j_goto (tgt := 4) rfl (by decide) ?_
            refine j_loc (ls' := [(0, vR 86), (1, vI k), (2, vI p), (3, vI (((2 * p) + 1) + 1))]) rfl ?_
            exact J3 M3 hs3 (by omega)
          · skip
            refine j_iconst rfl ?_
            refine j_zret rfl rfl (by decide) ?_ rfl (Nat.le_refl _)
            rw [if_neg hA0, if_pos (by omega)] at hE
            subst hE
            exact ⟨rfl, hs3⟩
    have J1 : ∀ M, SameP m M → qJ G mX12_holdsFor { frames := 8 + p.toNat, cells := 0, slots := 0, locals := 60 * (8 + p.toNat) } (qF G (fun r m' => r = some (vI E.1) ∧ SameP E.2 m') 0 0) 4 [(0, vR 86), (1, vI k), (2, vI p), (3, vI (2 * p))] [] M 0 0 := by
      intro M hs
      have hMA := h.of hs
      have e70 : mi M 86 70 = mi m 86 70 := hs.mi 86 70
      have e136 : mi M 136 (2 * p).toNat = mi m 136 (2 * p).toNat := hs.mi 136 _
      have eA1 := hA.2.2
      refine j_iload_n rfl rfl ?_
      refine j_iconst rfl ?_
      refine j_iload_n rfl rfl ?_
      refine j_imul rfl ?_
      refine j_iconst rfl ?_
      refine j_iadd rfl ?_
      refine j_icmp_ge (tgt := 44) rfl (by decide) (by omega) (by omega) (by omega) (by omega) (fun hb10_1 => ?_) (fun hb10_1 => ?_)
      · skip
        exfalso; omega
      · skip
        refine j_aload_n rfl rfl ?_
        refine j_getR (q := 136) rfl f_X12_160 rfl (hMA.1.1.s.lt (by decide)) (hMA.1.1.s.k (by decide) (by decide)) (hMA.1.1.s.r (by decide)) ?_
        refine j_iload_n rfl rfl ?_
        refine j_iald (n := 40) rfl (hMA.1.1.s.lt (by decide)) (hMA.1.1.s.k (by decide) (by decide)) (hMA.1.1.s.n (by decide) (by decide)) (by omega) (by omega) (by decide) ?_
        have u18_1 := hMA.1.1.i.a 136 (-1) 19 (by decide) (2 * p).toNat
        refine j_if_lt (tgt := 38) rfl (by decide) (by omega) (by omega) (fun hb19_1 => ?_) (fun hb19_1 => ?_)
        · skip
          refine j_iinc rfl rfl (by decide) ?_
          refine j_goto (tgt := 4) rfl (by decide) ?_
          refine j_loc (ls' := [(0, vR 86), (1, vI k), (2, vI p), (3, vI ((2 * p) + 1))]) rfl ?_
          have hR : (hoA k x p m) = (1, m) := if_neg (by omega)
          exact J2 M (by rw [hR]; exact hs) (by rw [hR]; exact (by decide : (1 : Int) ≠ 0))
        · skip
          refine j_aload_n rfl rfl ?_
          refine j_iload_n rfl rfl ?_
          refine j_aload_n rfl rfl ?_
          refine j_getR (q := 136) rfl f_X12_160 rfl (hMA.1.1.s.lt (by decide)) (hMA.1.1.s.k (by decide) (by decide)) (hMA.1.1.s.r (by decide)) ?_
          refine j_iload_n rfl rfl ?_
          refine j_iald (n := 40) rfl (hMA.1.1.s.lt (by decide)) (hMA.1.1.s.k (by decide) (by decide)) (hMA.1.1.s.n (by decide) (by decide)) (by omega) (by omega) (by decide) ?_
          have u29_1 := hMA.1.1.i.a 136 (-1) 19 (by decide) (2 * p).toNat
          refine j_callV (ci := 12) rfl okX12_holdsFor c_X12_464 (ih _ _ hMA (by omega) (by omega) (by omega)) rfl rfl (hMA.1.1.s.lt (by decide)) (hMA.1.1.s.k (by decide) (by decide)) (by decide) rfl (Nat.le_of_ble_eq_true rfl) (RB.call hRB (by omega) (by decide)) ⟨Nat.le_refl _, Nat.le_refl _⟩ ?_
          rintro vq M3 ⟨e1, hs3⟩
          rw [e1]
          clear e1
          have q3 := hoL_same k x (mi M 136 (2 * p).toNat) _ _ hs
          have hR : hoL k x (mi M 136 (2 * p).toNat) m = (hoA k x p m) := by rw [e136]; exact (if_pos (by omega)).symm
          rw [hR] at q3
          rw [q3.1]
          have hs3 := q3.2.trans hs3
          simp only [Option.toList_some, Option.toList_none, List.cons_append, List.nil_append]
          refine j_if_ne (tgt := 38) rfl (by decide) (by omega) (by omega) (fun hb33_1 => ?_) (fun hb33_1 => ?_)
          · skip
            refine j_iinc rfl rfl (by decide) ?_
            refine j_goto (tgt := 4) rfl (by decide) ?_
            refine j_loc (ls' := [(0, vR 86), (1, vI k), (2, vI p), (3, vI ((2 * p) + 1))]) rfl ?_
            exact J2 M3 hs3 (by omega)
          · skip
            refine j_iconst rfl ?_
            refine j_zret rfl rfl (by decide) ?_ rfl (Nat.le_refl _)
            rw [if_pos (by omega)] at hE
            subst hE
            exact ⟨rfl, hs3⟩
    refine j_iconst rfl ?_
    refine j_iload_n rfl rfl ?_
    refine j_imul rfl ?_
    refine j_istore_n rfl (by decide) ?_
    refine j_loc (ls' := [(0, vR 86), (1, vI k), (2, vI p), (3, vI (2 * p))]) rfl ?_
    exact J1 m (SameP.rf m)


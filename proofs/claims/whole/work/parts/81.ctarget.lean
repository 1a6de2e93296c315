theorem opG_r (lv : Nat) : ∀ x, opG lv x ≠ 0 → 0 ≤ x ∧ 7 ≤ opG lv x ∧ opG lv x ≤ 16 := by
  intro x h
  have h0 : 0 ≤ x := Int.not_lt.mp (fun z => h (opG_neg z))
  refine ⟨h0, ?_, opG_le lv x⟩
  revert h
  unfold opG opO opA opC opS opP
  (repeat' split) <;> omega
theorem ct_X6_partOf {G : QW} {o : Int} {d : Nat} {f : (Int → Int) → PSt → PRes} (hd : 1 ≤ d) (hf : CtC G mX6_readOperand d [vR 1, vI o] f) (g0 : ∀ (c : Int → Int) (N : Int), (∀ x, N ≤ x → c x < 0) → pGood c N (f c)) : CtC G mX6_readPart (d + 6) [vR 1, vI 0, vI o] (fun c => pEx c (f c)) := by
  have h5 := ct_X6_readPart5 hd hf g0
  have h4 := ct_X6_readPartL (lv := 4) (by decide) (by decide) (by omega) h5 g0
  have g4 : ∀ (c : Int → Int) (N : Int), (∀ x, N ≤ x → c x < 0) → pGood c N (pLev c (opG 4) (f c)) := fun c N hc => pLev_good hc (opG_r 4) (g0 c N hc)
  have h3 := ct_X6_readPartL (lv := 3) (by decide) (by decide) (by omega) h4 g4
  have g3 : ∀ (c : Int → Int) (N : Int), (∀ x, N ≤ x → c x < 0) → pGood c N (pLev c (opG 3) (pLev c (opG 4) (f c))) := fun c N hc => pLev_good hc (opG_r 3) (g4 c N hc)
  have h2 := ct_X6_readPart2 (by omega) h3 g3
  have g2 : ∀ (c : Int → Int) (N : Int), (∀ x, N ≤ x → c x < 0) → pGood c N (pCmp c (pLev c (opG 3) (pLev c (opG 4) (f c)))) := fun c N hc => pCmp_good hc (g3 c N hc)
  have h1 := ct_X6_readPartL (lv := 1) (by decide) (by decide) (by omega) h2 g2
  have g1 : ∀ (c : Int → Int) (N : Int), (∀ x, N ≤ x → c x < 0) → pGood c N (pLev c (opG 1) (pCmp c (pLev c (opG 3) (pLev c (opG 4) (f c))))) := fun c N hc => pLev_good hc (opG_r 1) (g2 c N hc)
  exact ct_X6_readPartL (lv := 0) (by decide) (by decide) (by omega) h1 g1
theorem ct_X6_rec (G : QW) : ∀ (k : Nat) (o : Int), o + k = 6 → 0 ≤ o → CtC G mX6_readOperand (3 + 7 * k) [vR 1, vI o] (fun c => pOpd c false (pSub c false k)) ∧ CtC G mX6_readPart (9 + 7 * k) [vR 1, vI 0, vI o] (fun c => pEx c (pOpd c false (pSub c false k))) := by
  have up : ∀ (k : Nat) (o : Int), CtC G mX6_readOperand (3 + 7 * k) [vR 1, vI o] (fun c => pOpd c false (pSub c false k)) → CtC G mX6_readPart (9 + 7 * k) [vR 1, vI 0, vI o] (fun c => pEx c (pOpd c false (pSub c false k))) := by
    intro k o h
    have e : 9 + 7 * k = (3 + 7 * k) + 6 := by omega
    rw [e]
    exact ct_X6_partOf (by omega) h (fun c N hc => pOpd_good hc false _ (pSub_good hc false k))
  intro k
  induction k with
  | zero =>
    intro o h h0
    have a := ct_X6_readOperand (G := G) (k := 0) h h0 (fun k2 e => absurd e (by omega))
    exact ⟨a, up 0 o a⟩
  | succ k ih =>
    intro o h h0
    have a := ct_X6_readOperand (G := G) (k := k + 1) h h0 (fun k2 e => by
      obtain rfl : k2 = k := by omega
      exact ih (o + 1) (by omega) (by omega))
    exact ⟨a, up (k + 1) o a⟩
theorem ct_X6_readPartA (G : QW) : CtC G mX6_readPart 51 [vR 1, vI 0, vI 0] (fun c => pAll c false) := (ct_X6_rec G 6 0 (by decide) (by decide)).2
/-- what reading line l leaves as it was -/
def FLC (q : Nat) (l : Int) (m N : AM) : Prop := N.2 = m.2 ∧ ∀ o j : Nat, ¬ (o = q + 1 ∨ (o = q ∧ (j = 5 ∨ j = 7 ∨ j = 8)) ∨ (q + 2 ≤ o ∧ o ≤ q + 5 ∧ j = l.toNat)) → ¬ (o = 1 ∧ (j = 2 ∨ j = 3)) → N.1 o j = m.1 o j
theorem FLC.rf (q : Nat) (l : Int) (m : AM) : FLC q l m m := ⟨rfl, fun _ _ _ _ => rfl⟩
theorem FLC.trans {q : Nat} {l : Int} {m M N : AM} (h : FLC q l m M) (h2 : FC q M N) : FLC q l m N := ⟨h2.1.trans h.1, fun o j a b => (h2.2 o j (by omega) b).trans (h.2 o j a b)⟩
theorem FLC.comp {q : Nat} {l : Int} {m M N : AM} (h : FLC q l m M) (h2 : FLC q l M N) : FLC q l m N := ⟨h2.1.trans h.1, fun o j a b => (h2.2 o j a b).trans (h.2 o j a b)⟩
theorem FLC.cell {q : Nat} {l : Int} {m N : AM} (h : FLC q l m N) {o j : Nat} (h1 : ¬ (o = q + 1 ∨ (o = q ∧ (j = 5 ∨ j = 7 ∨ j = 8)) ∨ (q + 2 ≤ o ∧ o ≤ q + 5 ∧ j = l.toNat))) (h2 : ¬ (o = 1 ∧ (j = 2 ∨ j = 3))) : mi N o j = mi m o j := by
  show (zi (N.1 o j)).toInt = (zi (m.1 o j)).toInt
  rw [h.2 o j h1 h2]
theorem FLC.one {q : Nat} {l : Int} {m N : AM} (h : FLC q l m N) {o k : Nat} (hk : (o = q + 1 ∨ (o = q ∧ (k = 5 ∨ k = 7 ∨ k = 8)) ∨ (q + 2 ≤ o ∧ o ≤ q + 5 ∧ k = l.toNat)) ∨ (o = 1 ∧ (k = 2 ∨ k = 3))) (v : Int) : FLC q l m (si N o k v) := ⟨h.1, fun p j h1 h2 => by
  show (if p = o ∧ j = k then v else N.1 p j) = m.1 p j
  rw [if_neg (by rintro ⟨rfl, rfl⟩; omega)]
  exact h.2 p j h1 h2⟩
theorem FLC.cg {q : Nat} {l : Int} {m N : AM} (h : FLC q l m N) (g : CG q m) : CG q N := by
  obtain ⟨a, b, c, d, e⟩ := g
  refine ⟨a.sub (by rw [h.1]), b, ?_, ?_, ⟨?_, fun j => ?_⟩⟩
  · unfold ObA mz mk mn mr at *
    rw [h.1]
    exact c
  · unfold mr at *
    rw [h.1]
    exact d
  · rw [h.cell (by omega) (by omega)]
    exact e.1
  · rw [h.cell (by omega) (by omega)]
    exact e.2 j
theorem FLC.ch {q : Nat} {l : Int} {m N : AM} (h : FLC q l m N) (hq : 62 ≤ q) : chC N = chC m := by
  funext x
  unfold chC
  rw [h.cell (by omega) (by omega), h.cell (by omega) (by omega)]
/-- what reading the target of line l leaves as it was -/
def FTC (q : Nat) (l : Int) (m N : AM) : Prop := N.2 = m.2 ∧ ∀ o j : Nat, ¬ (o = q + 1 ∨ (o = q ∧ j = 5) ∨ (o = q + 5 ∧ j = l.toNat)) → ¬ (o = 1 ∧ (j = 2 ∨ j = 3)) → N.1 o j = m.1 o j
theorem FTC.rf (q : Nat) (l : Int) (m : AM) : FTC q l m m := ⟨rfl, fun _ _ _ _ => rfl⟩
theorem FTC.trans {q : Nat} {l : Int} {m M N : AM} (h : FTC q l m M) (h2 : FC q M N) : FTC q l m N := ⟨h2.1.trans h.1, fun o j a b => (h2.2 o j (by omega) b).trans (h.2 o j a b)⟩
theorem FTC.comp {q : Nat} {l : Int} {m M N : AM} (h : FTC q l m M) (h2 : FTC q l M N) : FTC q l m N := ⟨h2.1.trans h.1, fun o j a b => (h2.2 o j a b).trans (h.2 o j a b)⟩
theorem FTC.cell {q : Nat} {l : Int} {m N : AM} (h : FTC q l m N) {o j : Nat} (h1 : ¬ (o = q + 1 ∨ (o = q ∧ j = 5) ∨ (o = q + 5 ∧ j = l.toNat))) (h2 : ¬ (o = 1 ∧ (j = 2 ∨ j = 3))) : mi N o j = mi m o j := by
  show (zi (N.1 o j)).toInt = (zi (m.1 o j)).toInt
  rw [h.2 o j h1 h2]
theorem FTC.one {q : Nat} {l : Int} {m N : AM} (h : FTC q l m N) {o k : Nat} (hk : (o = q + 1 ∨ (o = q ∧ k = 5) ∨ (o = q + 5 ∧ k = l.toNat)) ∨ (o = 1 ∧ (k = 2 ∨ k = 3))) (v : Int) : FTC q l m (si N o k v) := ⟨h.1, fun p j h1 h2 => by
  show (if p = o ∧ j = k then v else N.1 p j) = m.1 p j
  rw [if_neg (by rintro ⟨rfl, rfl⟩; omega)]
  exact h.2 p j h1 h2⟩
theorem FTC.cg {q : Nat} {l : Int} {m N : AM} (h : FTC q l m N) (g : CG q m) : CG q N := by
  obtain ⟨a, b, c, d, e⟩ := g
  refine ⟨a.sub (by rw [h.1]), b, ?_, ?_, ⟨?_, fun j => ?_⟩⟩
  · unfold ObA mz mk mn mr at *
    rw [h.1]
    exact c
  · unfold mr at *
    rw [h.1]
    exact d
  · rw [h.cell (by omega) (by omega)]
    exact e.1
  · rw [h.cell (by omega) (by omega)]
    exact e.2 j
theorem FTC.ch {q : Nat} {l : Int} {m N : AM} (h : FTC q l m N) (hq : 62 ≤ q) : chC N = chC m := by
  funext x
  unfold chC
  rw [h.cell (by omega) (by omega), h.cell (by omega) (by omega)]
theorem FLC.ft {q : Nat} {l : Int} {m M N : AM} (h : FLC q l m M) (h2 : FTC q l M N) : FLC q l m N := ⟨h2.1.trans h.1, fun o j a b => (h2.2 o j (by omega) b).trans (h.2 o j a b)⟩
theorem CS.cell {q : Nat} {m : AM} {r : PRes} (h : CS q m r) {o k : Nat} (h1 : ¬ (o = q ∧ k = 5)) (h2 : o ≠ q + 1) (h3 : ¬ (o = 1 ∧ (k = 2 ∨ k = 3))) (v : Int) : CS q (si m o k v) r := by
  cases r with
  | error p =>
    have e : mi (si m o k v) q 5 = mi m q 5 := mi_si_ne _ _ (by omega)
    exact ⟨(mi_si_ne _ _ (by omega)).trans h.1, (mi_si_ne _ _ (by omega)).trans h.2.1, by rw [e]; exact h.2.2.1, by rw [e]; exact h.2.2.2⟩
  | ok s => exact ⟨(mi_si_ne _ _ (by omega)).trans h.1, (mi_si_ne _ _ (by omega)).trans h.2.1, h.2.2.other (by omega) (by omega) v⟩
/-- a byte taken, if it is there -/
def pK (c : Int → Int) (b : Int) (r : PRes) : PRes := if chP c r = b then pAdv r else r
theorem pK_pb {c : Int → Int} {N b : Int} {r : PRes} (hc : ∀ x, N ≤ x → c x < 0) (hb : 0 ≤ b) (h : PB N 0 r) : PB N 0 (pK c b r) := by
  unfold pK
  split
  · next e => exact (PB.adv hc h (c := c) (by omega)).up (by decide)
  · exact h
theorem ct_X6_takesU {G : QW} {q : Nat} {m : AM} {r : PRes} (g : CG q m) (h : CS q m r) (hb : PB (mi m 1 1) 0 r) {b : Int} (hb0 : 0 ≤ b ∧ b ≤ 127) : qM G mX6_takes 1 0 0 [vR 1, vI b] m (fun x m' => x = some (vI (if chP (chC m) r = b then 1 else 0)) ∧ FC q m m' ∧ CS q m' (pK (chC m) b r)) := by
  refine (ct_X6_takes g h hb hb0).mono ?_
  unfold pK
  rintro x m' (⟨e, e1, e2, e3⟩ | ⟨e, e1, e2⟩)
  · rw [if_pos e, if_pos e]
    exact ⟨e1, e2, e3⟩
  · rw [if_neg e, if_neg e, e2]
    exact ⟨e1, FC.rf q m, h⟩
/-- the target of a line -/
def pTg (c : Int → Int) (s : PSt) : PRes := match pTgt c s.1 with
  | .error p => .error p
  | .ok _ => .ok ((s.1 + 1) + 1, s.2)
theorem pTg_r1 {c : Int → Int} {r : PRes} (h : chP c r = 114) (h2 : 48 ≤ chP c (pAdv r) ∧ chP c (pAdv r) < 56) : pThen r (pTg c) = pAdv (pAdv r) ∧ ∀ s gg, r = .ok s → pTgt c s.1 = .ok gg → gg = chP c (pAdv r) - 48 := by
  obtain ⟨⟨a, w⟩, rfl, e⟩ := chP_ok (c := c) (r := r) (by omega)
  have e1 : c a = 114 := h
  have h2 : 48 ≤ c (a + 1) ∧ c (a + 1) < 56 := h2
  have e3 : pTgt c a = .ok (c (a + 1) - 48) := by unfold pTgt; rw [if_pos e1, if_pos (by omega)]
  refine ⟨by show (match pTgt c a with | .error p => (.error p : PRes) | .ok _ => .ok ((a + 1) + 1, w)) = _; rw [e3]; rfl, fun s gg hs hg => ?_⟩
  simp only [Except.ok.injEq] at hs
  subst hs
  rw [e3] at hg
  simp only [Except.ok.injEq] at hg
  exact hg.symm
theorem pTg_s1 {c : Int → Int} {r : PRes} (h : chP c r = 115) (h2 : 48 ≤ chP c (pAdv r) ∧ chP c (pAdv r) < 52) : pThen r (pTg c) = pAdv (pAdv r) ∧ ∀ s gg, r = .ok s → pTgt c s.1 = .ok gg → gg = 10 + (chP c (pAdv r) - 48) := by
  obtain ⟨⟨a, w⟩, rfl, e⟩ := chP_ok (c := c) (r := r) (by omega)
  have e1 : c a = 115 := h
  have h2 : 48 ≤ c (a + 1) ∧ c (a + 1) < 52 := h2
  have e3 : pTgt c a = .ok ((c (a + 1) - 48) + 10) := by unfold pTgt; rw [if_neg (by omega), if_pos e1, if_pos (by omega)]
  refine ⟨by show (match pTgt c a with | .error p => (.error p : PRes) | .ok _ => .ok ((a + 1) + 1, w)) = _; rw [e3]; rfl, fun s gg hs hg => ?_⟩
  simp only [Except.ok.injEq] at hs
  subst hs
  rw [e3] at hg
  simp only [Except.ok.injEq] at hg
  show gg = 10 + (c (a + 1) - 48)
  omega
theorem pTg_e {c : Int → Int} {r : PRes} (h : (chP c r = 114 ∧ ¬ (48 ≤ chP c (pAdv r) ∧ chP c (pAdv r) < 56)) ∨ (chP c r = 115 ∧ ¬ (48 ≤ chP c (pAdv r) ∧ chP c (pAdv r) < 52))) : pThen r (pTg c) = pErr (pAdv r) ∧ ∀ s gg, r = .ok s → pTgt c s.1 ≠ .ok gg := by
  obtain ⟨⟨a, w⟩, rfl, e⟩ := chP_ok (c := c) (r := r) (by omega)
  have e3 : pTgt c a = .error (a + 1) := by
    have h : (c a = 114 ∧ ¬ (48 ≤ c (a + 1) ∧ c (a + 1) < 56)) ∨ (c a = 115 ∧ ¬ (48 ≤ c (a + 1) ∧ c (a + 1) < 52)) := h
    unfold pTgt
    rcases h with ⟨h1, h2⟩ | ⟨h1, h2⟩
    · rw [if_pos h1, if_neg (by omega)]
    · rw [if_neg (by omega), if_pos h1, if_neg (by omega)]
  refine ⟨by show (match pTgt c a with | .error p => (.error p : PRes) | .ok _ => .ok ((a + 1) + 1, w)) = _; rw [e3]; rfl, fun s gg hs hg => ?_⟩
  simp only [Except.ok.injEq] at hs
  subst hs
  rw [e3] at hg
  simp at hg
theorem pTg_x {c : Int → Int} {r : PRes} (h : chP c r ≠ 114) (h2 : chP c r ≠ 115) : pThen r (pTg c) = pErr r ∧ ∀ s gg, r = .ok s → pTgt c s.1 ≠ .ok gg := by
  cases r with
  | error p => exact ⟨rfl, fun s gg hs => by simp at hs⟩
  | ok t =>
    obtain ⟨a, w⟩ := t
    have h : c a ≠ 114 := h
    have h2 : c a ≠ 115 := h2
    have e3 : pTgt c a = .error a := by unfold pTgt; rw [if_neg h, if_neg h2]
    refine ⟨by show (match pTgt c a with | .error p => (.error p : PRes) | .ok _ => .ok ((a + 1) + 1, w)) = _; rw [e3]; rfl, fun s gg hs hg => ?_⟩
    simp only [Except.ok.injEq] at hs
    subst hs
    rw [e3] at hg
    simp at hg

set_option maxRecDepth 20000 in
set_option maxHeartbeats 4000000 in
theorem ct_X6_readTarget {G : QW} {q : Nat} {m : AM} {r : PRes} (g : CG q m) (h : CS q m r) (hb : PB (mi m 1 1) 0 r) {l : Int} (hl : 0 ≤ l ∧ l < 12) : qM G mX6_readTarget 2 0 0 [vR 1, vI l] m (fun x m' => x = none ∧ FTC q l m m' ∧ CS q m' (pThen r (pTg (chC m))) ∧ (∀ s gg, r = .ok s → pTgt (chC m) s.1 = .ok gg → mi m' (q + 5) l.toNat = gg)) := by
  refine qM.intro okX6_readTarget (Nat.le_of_ble_eq_true rfl) ?_
  have hq : 62 ≤ q := g.2.1
  have hlen := g.2.2.2.2.1
  refine j_aload_n rfl rfl ?_
  refine j_bipush rfl (by decide) ?_
  refine j_callV (ci := 6) rfl okX6_takes c_X6_42 (ct_X6_takes ((FTC.rf q l m).cg g) h (by rw [show mi m 1 1 = mi m 1 1 from (FTC.rf q l m).cell (by omega) (by omega)]; exact hb) (b := 114) (by decide)) rfl rfl (((FTC.rf q l m).cg g).1.lt (by decide)) (((FTC.rf q l m).cg g).1.k (by decide) (by decide)) (by decide) rfl (Nat.le_of_ble_eq_true rfl) (by decide) (by decide) ?_
  rintro vq M2 ht1
  rw [(FTC.rf q l m).ch hq] at ht1
  rcases ht1 with ⟨hy3, e1, hF4, hC5⟩ | ⟨hy3, e1, e2⟩
  · rw [e1]
    simp only [Option.toList_some, Option.toList_none, List.cons_append, List.nil_append]
    have hB6 := PB.adv chC_end hb (c := chC m) (r := r) (by omega)
    have hF4 := (FTC.rf q l m).trans hF4
    refine j_if_eq (tgt := 27) rfl (by decide) (by decide) (by decide) (fun z => absurd z (by decide)) (fun _ => ?_)
    refine j_aload_n rfl rfl ?_
    refine j_getR (q := q) rfl f_X6_26 rfl ((hF4.cg g).1.lt (by decide)) ((hF4.cg g).1.k (by decide) (by decide)) (hF4.cg g).2.2.2.1 ?_
    refine j_getR (q := (q + 5)) rfl f_X6_74 rfl (hF4.cg g).2.2.1.1 (hF4.cg g).2.2.1.2.1 ((hF4.cg g).2.2.1.q 4 5 13 12 (by decide)).1 ?_
    refine j_iload_n rfl rfl ?_
    refine j_aload_n rfl rfl ?_
    refine j_bipush rfl (by decide) ?_
    refine j_callV (ci := 6) rfl okX6_readDigit c_X6_77 (ct_X6_readDigit (hF4.cg g) hC5 (by rw [show mi M2 1 1 = mi m 1 1 from hF4.cell (by omega) (by omega)]; exact (hB6.up (by decide))) (b := 8) (by decide)) rfl rfl ((hF4.cg g).1.lt (by decide)) ((hF4.cg g).1.k (by decide) (by decide)) (by decide) rfl (Nat.le_of_ble_eq_true rfl) (by decide) (by decide) ?_
    rintro vq M8 hd7
    rw [hF4.ch hq] at hd7
    rcases hd7 with ⟨hd1, hd2, e1, hFd, hCd⟩ | ⟨hdn, e1, hFd, hCd⟩
    · rw [e1]
      simp only [Option.toList_some, Option.toList_none, List.cons_append, List.nil_append]
      have hFd := hF4.trans hFd
      refine j_iast (n := 12) rfl ((hFd.cg g).2.2.1.q 4 5 13 12 (by decide)).2.1 ((hFd.cg g).2.2.1.q 4 5 13 12 (by decide)).2.2.1 ((hFd.cg g).2.2.1.q 4 5 13 12 (by decide)).2.2.2 (by omega) (by omega) (by first | decide | omega) ?_
      refine j_goto (tgt := 61) rfl (by decide) ?_
      refine j_vret rfl rfl ?_ rfl (Nat.le_refl _)
      exact ⟨rfl, (hFd.one (Or.inl (by omega)) _), by rw [(pTg_r1 hy3 ⟨hd1, by omega⟩).1]; exact hCd.cell (by omega) (by omega) (by omega) _, fun s gg a b => by rw [mi_si_same _ _ _ (by omega) (by omega), (pTg_r1 hy3 ⟨hd1, by omega⟩).2 s gg a b]⟩
    · rw [e1]
      simp only [Option.toList_some, Option.toList_none, List.cons_append, List.nil_append]
      have hFd := hF4.trans hFd
      refine j_iast (n := 12) rfl ((hFd.cg g).2.2.1.q 4 5 13 12 (by decide)).2.1 ((hFd.cg g).2.2.1.q 4 5 13 12 (by decide)).2.2.1 ((hFd.cg g).2.2.1.q 4 5 13 12 (by decide)).2.2.2 (by omega) (by omega) (by first | decide | omega) ?_
      refine j_goto (tgt := 61) rfl (by decide) ?_
      refine j_vret rfl rfl ?_ rfl (Nat.le_refl _)
      exact ⟨rfl, (hFd.one (Or.inl (by omega)) _), by rw [(pTg_e (Or.inl ⟨hy3, by omega⟩)).1]; exact hCd.cell (by omega) (by omega) (by omega) _, fun s gg a b => absurd b ((pTg_e (Or.inl ⟨hy3, by omega⟩)).2 s gg a)⟩
  · rw [e1, e2]
    simp only [Option.toList_some, Option.toList_none, List.cons_append, List.nil_append]
    refine j_if_eq (tgt := 27) rfl (by decide) (by decide) (by decide) (fun _ => ?_) (fun z => absurd z (by decide))
    refine j_aload_n rfl rfl ?_
    refine j_bipush rfl (by decide) ?_
    refine j_callV (ci := 6) rfl okX6_takes c_X6_42 (ct_X6_takes ((FTC.rf q l m).cg g) h (by rw [show mi m 1 1 = mi m 1 1 from (FTC.rf q l m).cell (by omega) (by omega)]; exact hb) (b := 115) (by decide)) rfl rfl (((FTC.rf q l m).cg g).1.lt (by decide)) (((FTC.rf q l m).cg g).1.k (by decide) (by decide)) (by decide) rfl (Nat.le_of_ble_eq_true rfl) (by decide) (by decide) ?_
    rintro vq M10 ht9
    rw [(FTC.rf q l m).ch hq] at ht9
    rcases ht9 with ⟨hy11, e1, hF12, hC13⟩ | ⟨hy11, e1, e2⟩
    · rw [e1]
      simp only [Option.toList_some, Option.toList_none, List.cons_append, List.nil_append]
      have hB14 := PB.adv chC_end hb (c := chC m) (r := r) (by omega)
      have hF12 := (FTC.rf q l m).trans hF12
      refine j_if_eq (tgt := 56) rfl (by decide) (by decide) (by decide) (fun z => absurd z (by decide)) (fun _ => ?_)
      refine j_aload_n rfl rfl ?_
      refine j_getR (q := q) rfl f_X6_26 rfl ((hF12.cg g).1.lt (by decide)) ((hF12.cg g).1.k (by decide) (by decide)) (hF12.cg g).2.2.2.1 ?_
      refine j_getR (q := (q + 5)) rfl f_X6_74 rfl (hF12.cg g).2.2.1.1 (hF12.cg g).2.2.1.2.1 ((hF12.cg g).2.2.1.q 4 5 13 12 (by decide)).1 ?_
      refine j_iload_n rfl rfl ?_
      refine j_bipush rfl (by decide) ?_
      refine j_aload_n rfl rfl ?_
      refine j_iconst rfl ?_
      refine j_callV (ci := 6) rfl okX6_readDigit c_X6_77 (ct_X6_readDigit (hF12.cg g) hC13 (by rw [show mi M10 1 1 = mi m 1 1 from hF12.cell (by omega) (by omega)]; exact (hB14.up (by decide))) (b := 4) (by decide)) rfl rfl ((hF12.cg g).1.lt (by decide)) ((hF12.cg g).1.k (by decide) (by decide)) (by decide) rfl (Nat.le_of_ble_eq_true rfl) (by decide) (by decide) ?_
      rintro vq M16 hd15
      rw [hF12.ch hq] at hd15
      rcases hd15 with ⟨hd1, hd2, e1, hFd, hCd⟩ | ⟨hdn, e1, hFd, hCd⟩
      · rw [e1]
        simp only [Option.toList_some, Option.toList_none, List.cons_append, List.nil_append]
        have hFd := hF12.trans hFd
        refine j_iadd rfl ?_
        refine j_iast (n := 12) rfl ((hFd.cg g).2.2.1.q 4 5 13 12 (by decide)).2.1 ((hFd.cg g).2.2.1.q 4 5 13 12 (by decide)).2.2.1 ((hFd.cg g).2.2.1.q 4 5 13 12 (by decide)).2.2.2 (by omega) (by omega) (by first | decide | omega) ?_
        refine j_goto (tgt := 61) rfl (by decide) ?_
        refine j_vret rfl rfl ?_ rfl (Nat.le_refl _)
        exact ⟨rfl, (hFd.one (Or.inl (by omega)) _), by rw [(pTg_s1 hy11 ⟨hd1, by omega⟩).1]; exact hCd.cell (by omega) (by omega) (by omega) _, fun s gg a b => by rw [mi_si_same _ _ _ (by omega) (by omega), (pTg_s1 hy11 ⟨hd1, by omega⟩).2 s gg a b]⟩
      · rw [e1]
        simp only [Option.toList_some, Option.toList_none, List.cons_append, List.nil_append]
        have hFd := hF12.trans hFd
        refine j_iadd rfl ?_
        refine j_iast (n := 12) rfl ((hFd.cg g).2.2.1.q 4 5 13 12 (by decide)).2.1 ((hFd.cg g).2.2.1.q 4 5 13 12 (by decide)).2.2.1 ((hFd.cg g).2.2.1.q 4 5 13 12 (by decide)).2.2.2 (by omega) (by omega) (by first | decide | omega) ?_
        refine j_goto (tgt := 61) rfl (by decide) ?_
        refine j_vret rfl rfl ?_ rfl (Nat.le_refl _)
        exact ⟨rfl, (hFd.one (Or.inl (by omega)) _), by rw [(pTg_e (Or.inr ⟨hy11, by omega⟩)).1]; exact hCd.cell (by omega) (by omega) (by omega) _, fun s gg a b => absurd b ((pTg_e (Or.inr ⟨hy11, by omega⟩)).2 s gg a)⟩
    · rw [e1, e2]
      simp only [Option.toList_some, Option.toList_none, List.cons_append, List.nil_append]
      refine j_if_eq (tgt := 56) rfl (by decide) (by decide) (by decide) (fun _ => ?_) (fun z => absurd z (by decide))
      refine j_aload_n rfl rfl ?_
      refine j_iconst rfl ?_
      refine j_putZ rfl f_X6_22 (by omega) rfl (((FTC.rf q l m).cg g).1.lt (by decide)) (((FTC.rf q l m).cg g).1.k (by decide) (by decide)) ?_
      refine j_vret rfl rfl ?_ rfl (Nat.le_refl _)
      exact ⟨rfl, (FTC.rf q l m).one (Or.inr (by omega)) _, by rw [(pTg_x hy3 hy11).1]; exact CS.err hq h hb (by omega) (by decide), fun s gg a b => absurd b ((pTg_x hy3 hy11).2 s gg a)⟩


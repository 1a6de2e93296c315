def nxP (m : AM) (r : PRes) : Int := match r with
  | .ok s => nxC m s.1
  | .error _ => -1
theorem ct_X6_nextV {G : QW} {q : Nat} {m : AM} {r : PRes} (g : CG q m) (h : CS q m r) (hb : PB (mi m 1 1) 0 r) : qM G mX6_next 0 0 0 [vR 1] m (fun x m' => ∃ v, x = some (vI v) ∧ m' = m ∧ vCh v (chP (chC m) r) ∧ v = nxP m r) := by
  cases r with
  | error p => exact (ct_X6_nextB g h).mono (fun x m' e => ⟨-1, e.1, e.2, Or.inl ⟨by decide, by decide, rfl⟩, rfl⟩)
  | ok s => exact (ct_X6_next (w := s.2) g h (hb s rfl).1).mono (fun x m' e => ⟨_, e.1, e.2, nxC_ch g.2.2.2.2 s.1, rfl⟩)
theorem pNum_y {c : Int → Int} {N a : Int} (hc : ∀ x, N ≤ x → c x < 0) (h : 48 ≤ c a ∧ c a ≤ 57) (w : List (Nat × Int)) : pNum c false (a, w) = .ok ((pNumL c 5 a 0 0).1, w ++ [(0, (pNumL c 5 a 0 0).2.1)]) := by
  have hlt := lt_end hc (a := a) (by omega)
  have e : pNumL c 5 a 0 0 = pNumL c 4 (a + 1) (((10 * 0) + c a) - 48) (0 + 1) := by
    show (if 48 ≤ c a ∧ c a ≤ 57 then _ else _) = _
    rw [if_pos h]
  have r := pNumL_r hc 4 (a + 1) (((10 * 0) + c a) - 48) (0 + 1) (by omega)
  rw [← e] at r
  unfold pNum
  dsimp only
  rw [if_neg]
  rintro (z | ⟨z, -⟩)
  · omega
  · exact absurd z (by decide)
theorem pNum_n {c : Int → Int} {a : Int} (h : ¬ (48 ≤ c a ∧ c a ≤ 57)) (w : List (Nat × Int)) : pNum c false (a, w) = .error a := by
  have e : pNumL c 5 a 0 0 = (a, 0, 0) := by
    show (if 48 ≤ c a ∧ c a ≤ 57 then _ else _) = _
    rw [if_neg h]
  unfold pNum
  dsimp only
  rw [e, if_pos (Or.inl rfl)]
theorem pOG_d {c : Int → Int} {r : PRes} {sub : Option ((PSt → PRes) × (PSt → PRes))} (h : 48 ≤ chP c r ∧ chP c r ≤ 57) : pThen r (pOpd c false sub) = pThen r (pNum c false) := by
  obtain ⟨⟨a, w⟩, rfl, e⟩ := chP_ok (c := c) (r := r) (by omega)
  dsimp only at e
  exact pO_d (s := (a, w)) (by dsimp only; omega)
theorem pOG_n {c : Int → Int} {r : PRes} {sub : Option ((PSt → PRes) × (PSt → PRes))} (h : ¬ (48 ≤ chP c r ∧ chP c r ≤ 57)) (h1 : chP c r ≠ 45) (h2 : chP c r ≠ 40) : pThen r (pOpd c false sub) = pThen r (pName c) := by
  cases r with
  | error p => rfl
  | ok s =>
    have h0 : ¬ (48 ≤ c s.1 ∧ c s.1 ≤ 57) := h
    have h1 : c s.1 ≠ 45 := h1
    have h2 : c s.1 ≠ 40 := h2
    show pOpd c false sub s = pName c s
    unfold pOpd pName
    rw [if_neg h1, if_neg h2, show pNum c false s = .error s.1 from pNum_n h0 s.2]
theorem pOG_0 {c : Int → Int} {r : PRes} (h : chP c r = 45 ∨ chP c r = 40) : pThen r (pOpd c false none) = pErr r := by
  obtain ⟨⟨a, w⟩, rfl, e⟩ := chP_ok (c := c) (r := r) (by omega)
  dsimp only at e
  exact pO_n0 (s := (a, w)) (by dsimp only; omega)
theorem pOG_m {c : Int → Int} {r : PRes} {g : (PSt → PRes) × (PSt → PRes)} (h : chP c r = 45) : pThen r (pOpd c false (some g)) = pApp (pThen (pAdv r) g.1) 6 0 := by
  obtain ⟨⟨a, w⟩, rfl, e⟩ := chP_ok (c := c) (r := r) (by omega)
  dsimp only at e
  exact pO_n (s := (a, w)) (by dsimp only; omega)
theorem pOG_p {c : Int → Int} {r : PRes} {g : (PSt → PRes) × (PSt → PRes)} (h : chP c r = 40) : pThen r (pOpd c false (some g)) = pNeed c 41 (pThen (pAdv r) g.2) := by
  obtain ⟨⟨a, w⟩, rfl, e⟩ := chP_ok (c := c) (r := r) (by omega)
  dsimp only at e
  exact pO_p (s := (a, w)) (by dsimp only; omega)

set_option maxRecDepth 20000 in
set_option maxHeartbeats 4000000 in
theorem lp_readNumber_4 {G : QW} {q : Nat} {m : AM} {w : List (Nat × Int)} {E : Int × Int × Int} {Rp : Option Vl → AM → Prop} (g : CG q m) (hexit : ∀ N, FC q m N → CS q N (.ok (E.1, w)) → 0 ≤ E.2.1 → E.2.1 ≤ 99999 → qJ G mX6_readNumber { frames := 1, cells := 0, slots := 0, locals := 60 * 1 } (qF G Rp 0 0) 56 [(0, vR 1), (1, vI E.2.1), (2, vI E.2.2)] [] N 0 0) : ∀ (x : Nat) (b v n : Int) (N : AM) (bb : Int), FC q m N → CS q N (.ok (b, w)) → n + x = 5 → (w.length : Int) ≤ b → b ≤ mi m 1 1 → 0 ≤ n → 0 ≤ v → v < bb → bb * 10 ^ x = 100000 → pNumL (chC m) x b v n = E → qJ G mX6_readNumber { frames := 1, cells := 0, slots := 0, locals := 60 * 1 } (qF G Rp 0 0) 4 [(0, vR 1), (1, vI v), (2, vI n)] [] N 0 0 := by
  have hq : 62 ≤ q := g.2.1
  have hlen := g.2.2.2.2.1
  intro x
  induction x with
  | zero =>
    intro b v n N bb hF hC hx hb0 hb1 hn0 hv0 hv1 hbb hE
    have hvb : v ≤ 99999 := by
      rw [Int.pow_zero, Int.mul_one] at hbb
      omega
    have hE : (b, v, n) = E := hE
    refine j_iload_n rfl rfl ?_
    refine j_iconst rfl ?_
    refine j_icmp_ge (tgt := 56) rfl (by decide) (by omega) (by omega) (by omega) (by omega) (fun hb6_1 => ?_) (fun hb6_1 => ?_)
    · skip
      subst hE
      refine j_loc (ls' := [(0, vR 1), (1, vI v), (2, vI n)]) rfl ?_
      exact hexit N hF hC hv0 hvb
    · skip
      exfalso; omega
  | succ x ih =>
    intro b v n N bb hF hC hx hb0 hb1 hn0 hv0 hv1 hbb hE
    have hB : PB (mi m 1 1) 0 (.ok (b, w)) := fun s hs => by
      simp only [Except.ok.injEq] at hs
      subst hs
      dsimp only
      omega
    have hvb : v ≤ 99999 := by
      have h3 : (1 : Int) ≤ 10 ^ (x + 1) := Int.pow_pos (by decide)
      have h4 : bb * 1 ≤ bb * 10 ^ (x + 1) := Int.mul_le_mul_of_nonneg_left h3 (by omega)
      omega
    simp only [pNumL] at hE
    refine j_iload_n rfl rfl ?_
    refine j_iconst rfl ?_
    refine j_icmp_ge (tgt := 56) rfl (by decide) (by omega) (by omega) (by omega) (by omega) (fun hb6_1 => ?_) (fun hb6_1 => ?_)
    · skip
      exfalso; omega
    · skip
      refine j_aload_n rfl rfl ?_
      refine j_callV (ci := 6) rfl okX6_next c_X6_90 (ct_X6_nextV (hF.cg g) hC (by rw [show mi N 1 1 = mi m 1 1 from hF.cell (by omega) (by omega)]; exact hB)) rfl rfl ((hF.cg g).1.lt (by decide)) ((hF.cg g).1.k (by decide) (by decide)) (by decide) rfl (Nat.le_of_ble_eq_true rfl) (by decide) (by decide) ?_
      rintro vq mq ⟨v1, e1, e2, hv2, hv2n⟩
      rw [e1, e2]
      clear e1 e2
      simp only [Option.toList_some, Option.toList_none, List.cons_append, List.nil_append]
      rw [hF.ch hq] at hv2
      have hv2n : v1 = nxC m b := hv2n.trans (by rw [← hF.nx hq]; rfl)
      have hv2 : (-1 ≤ v1 ∧ v1 ≤ 127 ∧ chC m b = v1) ∨ (128 ≤ v1 ∧ v1 ≤ 255 ∧ chC m b = v1 - 256) := hv2
      refine j_bipush rfl (by decide) ?_
      refine j_icmp_lt (tgt := 56) rfl (by decide) (by omega) (by omega) (by omega) (by omega) (fun hb15_1 => ?_) (fun hb15_1 => ?_)
      · skip
        rw [if_neg (by omega)] at hE
        subst hE
        refine j_loc (ls' := [(0, vR 1), (1, vI v), (2, vI n)]) rfl ?_
        exact hexit N hF hC hv0 hvb
      · skip
        refine j_aload_n rfl rfl ?_
        refine j_callV (ci := 6) rfl okX6_next c_X6_90 (ct_X6_nextV (hF.cg g) hC (by rw [show mi N 1 1 = mi m 1 1 from hF.cell (by omega) (by omega)]; exact hB)) rfl rfl ((hF.cg g).1.lt (by decide)) ((hF.cg g).1.k (by decide) (by decide)) (by decide) rfl (Nat.le_of_ble_eq_true rfl) (by decide) (by decide) ?_
        rintro vq mq ⟨v3, e1, e2, hv4, hv4n⟩
        rw [e1, e2]
        clear e1 e2
        simp only [Option.toList_some, Option.toList_none, List.cons_append, List.nil_append]
        rw [hF.ch hq] at hv4
        have hv4n : v3 = nxC m b := hv4n.trans (by rw [← hF.nx hq]; rfl)
        have hv4 : (-1 ≤ v3 ∧ v3 ≤ 127 ∧ chC m b = v3) ∨ (128 ≤ v3 ∧ v3 ≤ 255 ∧ chC m b = v3 - 256) := hv4
        refine j_bipush rfl (by decide) ?_
        refine j_icmp_gt (tgt := 56) rfl (by decide) (by omega) (by omega) (by omega) (by omega) (fun hb24_1 => ?_) (fun hb24_1 => ?_)
        · skip
          rw [if_neg (by omega)] at hE
          subst hE
          refine j_loc (ls' := [(0, vR 1), (1, vI v), (2, vI n)]) rfl ?_
          exact hexit N hF hC hv0 hvb
        · skip
          refine j_bipush rfl (by decide) ?_
          refine j_iload_n rfl rfl ?_
          refine j_imul rfl ?_
          refine j_aload_n rfl rfl ?_
          refine j_callV (ci := 6) rfl okX6_next c_X6_90 (ct_X6_nextV (hF.cg g) hC (by rw [show mi N 1 1 = mi m 1 1 from hF.cell (by omega) (by omega)]; exact hB)) rfl rfl ((hF.cg g).1.lt (by decide)) ((hF.cg g).1.k (by decide) (by decide)) (by decide) rfl (Nat.le_of_ble_eq_true rfl) (by decide) (by decide) ?_
          rintro vq mq ⟨v5, e1, e2, hv6, hv6n⟩
          rw [e1, e2]
          clear e1 e2
          simp only [Option.toList_some, Option.toList_none, List.cons_append, List.nil_append]
          rw [hF.ch hq] at hv6
          have hv6n : v5 = nxC m b := hv6n.trans (by rw [← hF.nx hq]; rfl)
          have hv6 : (-1 ≤ v5 ∧ v5 ≤ 127 ∧ chC m b = v5) ∨ (128 ≤ v5 ∧ v5 ≤ 255 ∧ chC m b = v5 - 256) := hv6
          refine j_iadd rfl ?_
          refine j_bipush rfl (by decide) ?_
          refine j_isub rfl ?_
          refine j_istore_n rfl (by decide) ?_
          refine j_aload_n rfl rfl ?_
          refine j_dup rfl (Nat.ne_of_beq_eq_false rfl) ?_
          refine j_getI rfl f_X6_19 rfl ((hF.cg g).1.lt (by decide)) ((hF.cg g).1.k (by decide) (by decide)) ?_
          have u42_1 := mi_rng N 1 2
          refine j_iconst rfl ?_
          refine j_iadd rfl ?_
          refine j_putI rfl f_X6_19 rfl ((hF.cg g).1.lt (by decide)) ((hF.cg g).1.k (by decide) (by decide)) ?_
          have hlt := lt_end (chC_end (m := m)) (a := b) (by omega)
          rw [show mi N 1 2 = b from hC.1]
          have hCa : CS q (si N 1 2 (b + 1)) (.ok (b + 1, w)) := CS.adv hq hC (by omega) (by omega)
          have hFa := hF.one (o := 1) (k := 2) (Or.inr (by omega)) (b + 1)
          generalize si N 1 2 (b + 1) = Na at hCa hFa ⊢
          refine j_iinc rfl rfl (by decide) ?_
          refine j_goto (tgt := 4) rfl (by decide) ?_
          have hu : v5 = chC m b := by omega
          refine j_loc (ls' := [(0, vR 1), (1, vI (((10 * v) + chC m b) - 48)), (2, vI (n + 1))]) (by rw [← hu]; rfl) ?_
          rw [if_pos (by omega)] at hE
          exact ih (b + 1) _ (n + 1) _ (bb * 10) hFa hCa (by omega) (by omega) (by omega) (by omega) (by omega) (by omega) (by rw [← hbb, Int.pow_succ, Int.mul_comm (10 ^ x) 10, ← Int.mul_assoc]) hE

set_option maxRecDepth 20000 in
set_option maxHeartbeats 4000000 in
theorem ct_X6_readNumber {G : QW} {q : Nat} {m : AM} {r : PRes} (g : CG q m) (h : CS q m r) (hb : PB (mi m 1 1) 0 r) (hd : 48 ≤ chP (chC m) r ∧ chP (chC m) r ≤ 57) : qM G mX6_readNumber 1 0 0 [vR 1] m (fun x m' => x = none ∧ FC q m m' ∧ CS q m' (pThen r (pNum (chC m) false))) := by
  obtain ⟨⟨a, w⟩, rfl, -⟩ := chP_ok (c := chC m) (r := r) (by omega)
  have hdig : 48 ≤ chC m a ∧ chC m a ≤ 57 := hd
  have hpb := hb _ rfl
  dsimp only at hpb
  refine qM.intro okX6_readNumber (Nat.le_of_ble_eq_true rfl) ?_
  have hq : 62 ≤ q := g.2.1
  have hlen := g.2.2.2.2.1
  have hlt := lt_end (chC_end (m := m)) (a := a) (by omega)
  have hnr := pNumL_r (chC_end (m := m)) 5 a 0 0 (by omega)
  have hn1 : a + 1 ≤ (pNumL (chC m) 5 a 0 0).1 := by
    have e : pNumL (chC m) 5 a 0 0 = pNumL (chC m) 4 (a + 1) (((10 * 0) + chC m a) - 48) (0 + 1) := by
      show (if 48 ≤ chC m a ∧ chC m a ≤ 57 then _ else _) = _
      rw [if_pos hdig]
    have r2 := pNumL_r (chC_end (m := m)) 4 (a + 1) (((10 * 0) + chC m a) - 48) (0 + 1) (by omega)
    rw [e]
    exact r2.1
  refine j_iconst rfl ?_
  refine j_istore_n rfl (by decide) ?_
  refine j_iconst rfl ?_
  refine j_istore_n rfl (by decide) ?_
  refine j_loc (ls' := [(0, vR 1), (1, vI 0), (2, vI 0)]) rfl ?_
  refine lp_readNumber_4 (E := (pNumL (chC m) 5 a 0 0)) g (fun N hF hC hv0 hv1 => ?_) 5 a 0 0 m 1 (FC.rf q m) h (by decide) (by omega) (by omega) (by decide) (by decide) (by decide) (by decide) rfl
  have hB : PB (mi m 1 1) 1 (.ok ((pNumL (chC m) 5 a 0 0).1, w)) := fun s hs => by
    simp only [Except.ok.injEq] at hs
    subst hs
    dsimp only
    omega
  refine j_aload_n rfl rfl ?_
  refine j_getR (q := q) rfl f_X6_26 rfl ((hF.cg g).1.lt (by decide)) ((hF.cg g).1.k (by decide) (by decide)) (hF.cg g).2.2.2.1 ?_
  refine j_iconst rfl ?_
  refine j_iload_n rfl rfl ?_
  refine j_callV (ci := 5) rfl okX5_append c_X6_87 (ct_X5_append (by omega) (by omega) (by omega) (by omega) (hF.cg g).2.2.1 (hC.used hB (by omega) (by omega)).1) rfl rfl (hF.cg g).2.2.1.1 (hF.cg g).2.2.1.2.1 (by decide) rfl (Nat.le_of_ble_eq_true rfl) (by decide) (by decide) ?_
  rintro vq mq ⟨e1, e2⟩
  have e2 : mq = apM q N 0 ((pNumL (chC m) 5 a 0 0).2.1) := e2
  rw [e1, e2]
  clear e1 e2
  simp only [Option.toList_some, Option.toList_none, List.cons_append, List.nil_append]
  have hC3 : CS q (apM q N 0 ((pNumL (chC m) 5 a 0 0).2.1)) (pApp (.ok ((pNumL (chC m) 5 a 0 0).1, w)) 0 ((pNumL (chC m) 5 a 0 0).2.1)) := CS.app hq hC hB (by omega) 0 ((pNumL (chC m) 5 a 0 0).2.1)
  have hF2 := apM_fc hF 0 ((pNumL (chC m) 5 a 0 0).2.1)
  have hB4 := PB.app hB 0 ((pNumL (chC m) 5 a 0 0).2.1)
  generalize apM q N 0 ((pNumL (chC m) 5 a 0 0).2.1) = N1 at hF2 hC3 ⊢
  refine j_vret rfl rfl ?_ rfl (Nat.le_refl _)
  exact ⟨rfl, hF2, by rw [show pThen (.ok (a, w)) (pNum (chC m) false) = pNum (chC m) false (a, w) from rfl, pNum_y chC_end hdig w]; exact hC3⟩


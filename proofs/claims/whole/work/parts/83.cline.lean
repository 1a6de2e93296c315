theorem pTest_y {c : Int → Int} {r : PRes} (h : chP c r = 63) : pThen r (pTest c false) = pNeed c 58 (pThen (pAdv r) (pAll c false)) := by
  obtain ⟨⟨a, w⟩, rfl, e⟩ := chP_ok (c := c) (r := r) (by omega)
  show pTest c false (a, w) = _
  unfold pTest
  rw [if_pos (show c a = 63 from h)]
  rfl
theorem pTest_n {c : Int → Int} {r : PRes} (h : chP c r ≠ 63) : pThen r (pTest c false) = r := by
  cases r with
  | error p => rfl
  | ok s =>
    show pTest c false s = _
    unfold pTest
    rw [if_neg (show ¬ c s.1 = 63 from h)]

set_option maxRecDepth 20000 in
set_option maxHeartbeats 4000000 in
theorem lp_readLine_65 {G : QW} {q : Nat} {m : AM} {r : PRes} {l : Int} {Rp : Option Vl → AM → Prop} (hl : 0 ≤ l ∧ l < 12) (g : CG q m) (h : CS q m r) (hb : PB (mi m 1 1) 0 r) (hx : ∀ m', FLC q l m m' → CS q m' (lnT (chC m) (pK (chC m) 33 r)) → (∀ s gg, pK (chC m) 33 r = .ok s → pTgt (chC m) s.1 = .ok gg → mi m' (q + 5) l.toNat = gg) → (∀ s, lnT (chC m) (pK (chC m) 33 r) = .ok s → mi m' (q + 4) l.toNat = s.2.length) → mi m' q 7 = mi m q 7 → mi m' q 8 = z_ior (mi m q 8) (if chP (chC m) r = 33 then z_ishl 1 l else 0) → mi m' (q + 2) l.toNat = mi m (q + 2) l.toNat → (∀ s, r = .ok s → mi m' (q + 3) l.toNat = s.2.length) → Rp none m') : qJ G mX6_readLine { frames := 52, cells := 0, slots := 0, locals := 60 * 52 } (qF G Rp 0 0) 65 [(0, vR 1), (1, vI l)] [] m 0 0 := by
  have hRB := RBn 52
  have hq : 62 ≤ q := g.2.1
  have hlen := g.2.2.2.2.1
  refine j_aload_n rfl rfl ?_
  refine j_getR (q := q) rfl f_X6_26 rfl (((FLC.rf q l m).cg g).1.lt (by decide)) (((FLC.rf q l m).cg g).1.k (by decide) (by decide)) ((FLC.rf q l m).cg g).2.2.2.1 ?_
  refine j_getR (q := (q + 3)) rfl f_X6_62 rfl ((FLC.rf q l m).cg g).2.2.1.1 ((FLC.rf q l m).cg g).2.2.1.2.1 (((FLC.rf q l m).cg g).2.2.1.q 2 3 13 12 (by decide)).1 ?_
  refine j_iload_n rfl rfl ?_
  refine j_aload_n rfl rfl ?_
  refine j_getR (q := q) rfl f_X6_26 rfl (((FLC.rf q l m).cg g).1.lt (by decide)) (((FLC.rf q l m).cg g).1.k (by decide) (by decide)) ((FLC.rf q l m).cg g).2.2.2.1 ?_
  refine j_getI rfl f_X6_52 rfl ((FLC.rf q l m).cg g).2.2.1.1 ((FLC.rf q l m).cg g).2.2.1.2.1 ?_
  have u77_1 := mi_rng m q 5
  refine j_iast (n := 12) rfl (((FLC.rf q l m).cg g).2.2.1.q 2 3 13 12 (by decide)).2.1 (((FLC.rf q l m).cg g).2.2.1.q 2 3 13 12 (by decide)).2.2.1 (((FLC.rf q l m).cg g).2.2.1.q 2 3 13 12 (by decide)).2.2.2 (by omega) (by omega) (by first | decide | omega) ?_
  have hu := h.used hb (by omega) (by omega)
  have hF0 := (FLC.rf q l m).one (o := q + 3) (k := l.toNat) (Or.inl (by omega)) (mi m q 5)
  have hC0 := h.cell (o := q + 3) (k := l.toNat) (by omega) (by omega) (by omega) (mi m q 5)
  have k7 : mi (si m (q + 3) l.toNat (mi m q 5)) q 7 = mi m q 7 := mi_si_ne _ _ (by omega)
  have k8 : mi (si m (q + 3) l.toNat (mi m q 5)) q 8 = mi m q 8 := mi_si_ne _ _ (by omega)
  have k2 : mi (si m (q + 3) l.toNat (mi m q 5)) (q + 2) l.toNat = mi m (q + 2) l.toNat := mi_si_ne _ _ (by omega)
  have k3 : mi (si m (q + 3) l.toNat (mi m q 5)) (q + 3) l.toNat = mi m q 5 := mi_si_same _ _ _ (by omega) (by omega)
  generalize si m (q + 3) l.toNat (mi m q 5) = N0 at hF0 hC0 k7 k8 k2 k3 ⊢
  refine j_aload_n rfl rfl ?_
  refine j_getR (q := q) rfl f_X6_26 rfl ((hF0.cg g).1.lt (by decide)) ((hF0.cg g).1.k (by decide) (by decide)) (hF0.cg g).2.2.2.1 ?_
  refine j_dup rfl (Nat.ne_of_beq_eq_false rfl) ?_
  refine j_getI rfl f_X6_65 rfl (hF0.cg g).2.2.1.1 (hF0.cg g).2.2.1.2.1 ?_
  have u86_1 := mi_rng N0 q 8
  refine j_aload_n rfl rfl ?_
  refine j_bipush rfl (by decide) ?_
  refine j_callV (ci := 6) rfl okX6_takes c_X6_42 (ct_X6_takesU (hF0.cg g) hC0 (by rw [show mi N0 1 1 = mi m 1 1 from hF0.cell (by omega) (by omega)]; exact hb) (b := 33) (by decide)) rfl rfl ((hF0.cg g).1.lt (by decide)) ((hF0.cg g).1.k (by decide) (by decide)) (by decide) rfl (Nat.le_of_ble_eq_true rfl) (RB.call hRB (by omega) (by decide)) ⟨Nat.le_refl _, Nat.le_refl _⟩ ?_
  rintro vq Nw ⟨e1, hFw, hCw⟩
  rw [hF0.ch hq] at e1 hCw
  rw [e1]
  clear e1
  simp only [Option.toList_some, Option.toList_none, List.cons_append, List.nil_append]
  have hFv := hF0.trans hFw
  have hBw := pK_pb (b := 33) (c := chC m) chC_end (by decide) hb
  refine j_bif_eq (tgt := 104) rfl (by decide) (fun hb95_1 => ?_) (fun hb95_1 => ?_)
  · skip
    refine j_iconst rfl ?_
    refine j_ior rfl ?_
    have z105_1 := z_ior_rng (mi N0 q 8) 0
    refine j_putI rfl f_X6_65 rfl (hFv.cg g).2.2.1.1 (hFv.cg g).2.2.1.2.1 ?_
    refine j_loc (ls' := [(0, vR 1), (1, vI l)]) rfl ?_
    have hF8 := hFv.one (o := q) (k := 8) (Or.inl (by omega)) (z_ior (mi N0 q 8) 0)
    have hC8 := hCw.cell (o := q) (k := 8) (by omega) (by omega) (by omega) (z_ior (mi N0 q 8) 0)
    have j7 : mi (si Nw q 8 (z_ior (mi N0 q 8) 0)) q 7 = mi N0 q 7 := (mi_si_ne _ _ (by omega)).trans (hFw.cell (by omega) (by omega))
    have j2 : mi (si Nw q 8 (z_ior (mi N0 q 8) 0)) (q + 2) l.toNat = mi N0 (q + 2) l.toNat := (mi_si_ne _ _ (by omega)).trans (hFw.cell (by omega) (by omega))
    have j3 : mi (si Nw q 8 (z_ior (mi N0 q 8) 0)) (q + 3) l.toNat = mi N0 (q + 3) l.toNat := (mi_si_ne _ _ (by omega)).trans (hFw.cell (by omega) (by omega))
    have j8 : mi (si Nw q 8 (z_ior (mi N0 q 8) 0)) q 8 = (z_ior (mi N0 q 8) 0) := mi_si_same _ _ _ (z_ior_rng _ _).1 (z_ior_rng _ _).2
    have e8 : (if chP (chC m) r = 33 then z_ishl 1 l else 0) = 0 := if_neg hb95_1
    generalize si Nw q 8 (z_ior (mi N0 q 8) 0) = M8 at hF8 hC8 j7 j2 j3 j8 ⊢
    have ech := hF8.ch hq
    refine lp_readLine_109 (r := pK (chC m) 33 r) hl (hF8.cg g) hC8 (by rw [show mi M8 1 1 = mi m 1 1 from hF8.cell (by omega) (by omega)]; exact hBw) (fun m' a1 a2 a3 a4 a5 a6 a7 a8 => ?_)
    rw [ech] at a2 a3 a4
    refine hx m' (hF8.comp a1) a2 a3 a4 (a5.trans (j7.trans k7)) (a6.trans (j8.trans (by rw [e8, k8]))) (a7.trans (j2.trans k2)) (fun s e => a8.trans (j3.trans (k3.trans (h.len s e))))
  · skip
    refine j_iconst rfl ?_
    refine j_iload_n rfl rfl ?_
    refine j_ishl rfl ?_
    have z100_1 := z_ishl_rng 1 l
    refine j_goto (tgt := 105) rfl (by decide) ?_
    refine j_ior rfl ?_
    have z105_2 := z_ior_rng (mi N0 q 8) (z_ishl 1 l)
    refine j_putI rfl f_X6_65 rfl (hFv.cg g).2.2.1.1 (hFv.cg g).2.2.1.2.1 ?_
    refine j_loc (ls' := [(0, vR 1), (1, vI l)]) rfl ?_
    have hF8 := hFv.one (o := q) (k := 8) (Or.inl (by omega)) (z_ior (mi N0 q 8) (z_ishl 1 l))
    have hC8 := hCw.cell (o := q) (k := 8) (by omega) (by omega) (by omega) (z_ior (mi N0 q 8) (z_ishl 1 l))
    have j7 : mi (si Nw q 8 (z_ior (mi N0 q 8) (z_ishl 1 l))) q 7 = mi N0 q 7 := (mi_si_ne _ _ (by omega)).trans (hFw.cell (by omega) (by omega))
    have j2 : mi (si Nw q 8 (z_ior (mi N0 q 8) (z_ishl 1 l))) (q + 2) l.toNat = mi N0 (q + 2) l.toNat := (mi_si_ne _ _ (by omega)).trans (hFw.cell (by omega) (by omega))
    have j3 : mi (si Nw q 8 (z_ior (mi N0 q 8) (z_ishl 1 l))) (q + 3) l.toNat = mi N0 (q + 3) l.toNat := (mi_si_ne _ _ (by omega)).trans (hFw.cell (by omega) (by omega))
    have j8 : mi (si Nw q 8 (z_ior (mi N0 q 8) (z_ishl 1 l))) q 8 = (z_ior (mi N0 q 8) (z_ishl 1 l)) := mi_si_same _ _ _ (z_ior_rng _ _).1 (z_ior_rng _ _).2
    have e8 : (if chP (chC m) r = 33 then z_ishl 1 l else 0) = z_ishl 1 l := if_pos hb95_1
    generalize si Nw q 8 (z_ior (mi N0 q 8) (z_ishl 1 l)) = M8 at hF8 hC8 j7 j2 j3 j8 ⊢
    have ech := hF8.ch hq
    refine lp_readLine_109 (r := pK (chC m) 33 r) hl (hF8.cg g) hC8 (by rw [show mi M8 1 1 = mi m 1 1 from hF8.cell (by omega) (by omega)]; exact hBw) (fun m' a1 a2 a3 a4 a5 a6 a7 a8 => ?_)
    rw [ech] at a2 a3 a4
    refine hx m' (hF8.comp a1) a2 a3 a4 (a5.trans (j7.trans k7)) (a6.trans (j8.trans (by rw [e8, k8]))) (a7.trans (j2.trans k2)) (fun s e => a8.trans (j3.trans (k3.trans (h.len s e))))

set_option maxRecDepth 20000 in
set_option maxHeartbeats 4000000 in
theorem lp_readLine_44 {G : QW} {q : Nat} {m : AM} {r : PRes} {l : Int} {Rp : Option Vl → AM → Prop} (hl : 0 ≤ l ∧ l < 12) (g : CG q m) (h : CS q m r) (hb : PB (mi m 1 1) 0 r) (hx : ∀ m', FLC q l m m' → CS q m' (lnT (chC m) (pK (chC m) 33 (pThen r (pTest (chC m) false)))) → (∀ s gg, pK (chC m) 33 (pThen r (pTest (chC m) false)) = .ok s → pTgt (chC m) s.1 = .ok gg → mi m' (q + 5) l.toNat = gg) → (∀ s, lnT (chC m) (pK (chC m) 33 (pThen r (pTest (chC m) false))) = .ok s → mi m' (q + 4) l.toNat = s.2.length) → mi m' q 7 = mi m q 7 → mi m' q 8 = z_ior (mi m q 8) (if chP (chC m) (pThen r (pTest (chC m) false)) = 33 then z_ishl 1 l else 0) → mi m' (q + 2) l.toNat = mi m (q + 2) l.toNat → (∀ s, (pThen r (pTest (chC m) false)) = .ok s → mi m' (q + 3) l.toNat = s.2.length) → Rp none m') : qJ G mX6_readLine { frames := 52, cells := 0, slots := 0, locals := 60 * 52 } (qF G Rp 0 0) 44 [(0, vR 1), (1, vI l)] [] m 0 0 := by
  have hRB := RBn 52
  have hq : 62 ≤ q := g.2.1
  have hlen := g.2.2.2.2.1
  refine j_aload_n rfl rfl ?_
  refine j_bipush rfl (by decide) ?_
  refine j_callV (ci := 6) rfl okX6_takes c_X6_42 (ct_X6_takes g h hb (b := 63) (by decide)) rfl rfl (g.1.lt (by decide)) (g.1.k (by decide) (by decide)) (by decide) rfl (Nat.le_of_ble_eq_true rfl) (RB.call hRB (by omega) (by decide)) ⟨Nat.le_refl _, Nat.le_refl _⟩ ?_
  rintro vq M2 ht1
  rcases ht1 with ⟨hy3, e1, hF4, hC5⟩ | ⟨hy3, e1, e2⟩
  · rw [e1]
    simp only [Option.toList_some, Option.toList_none, List.cons_append, List.nil_append]
    have hB6 := PB.adv chC_end hb (c := chC m) (r := r) (by omega)
    refine j_if_eq (tgt := 65) rfl (by decide) (by decide) (by decide) (fun z => absurd z (by decide)) (fun _ => ?_)
    refine j_aload_n rfl rfl ?_
    refine j_iconst rfl ?_
    refine j_iconst rfl ?_
    refine j_callV (ci := 6) rfl okX6_readPart c_X6_55 (ct_X6_readPartA G q M2 (pAdv r) (hF4.cg g) hC5 (by rw [show mi M2 1 1 = mi m 1 1 from hF4.cell (by omega) (by omega)]; exact (hB6.up (by decide)))) rfl rfl ((hF4.cg g).1.lt (by decide)) ((hF4.cg g).1.k (by decide) (by decide)) (by decide) rfl (Nat.le_of_ble_eq_true rfl) (RB.call hRB (by omega) (by decide)) ⟨Nat.le_refl _, Nat.le_refl _⟩ ?_
    rintro vq N7 ⟨e1, hF8, hC9⟩
    rw [e1]
    clear e1
    simp only [Option.toList_some, Option.toList_none, List.cons_append, List.nil_append]
    rw [hF4.ch hq] at hC9
    have hF8 := hF4.trans hF8
    have hC9 : CS q N7 (pThen (pAdv r) (pAll (chC m) false)) := hC9
    have hB10 := pGood.pb (pAll_good chC_end false) hB6
    refine j_aload_n rfl rfl ?_
    refine j_bipush rfl (by decide) ?_
    refine j_callV (ci := 6) rfl okX6_need c_X6_59 (ct_X6_need (hF8.cg g) hC9 (by rw [show mi N7 1 1 = mi m 1 1 from hF8.cell (by omega) (by omega)]; exact (hB10.up (by decide))) (b := 58) (by decide)) rfl rfl ((hF8.cg g).1.lt (by decide)) ((hF8.cg g).1.k (by decide) (by decide)) (by decide) rfl (Nat.le_of_ble_eq_true rfl) (RB.call hRB (by omega) (by decide)) ⟨Nat.le_refl _, Nat.le_refl _⟩ ?_
    rintro vq N11 ⟨e1, hF12, hC13⟩
    rw [e1]
    clear e1
    simp only [Option.toList_some, Option.toList_none, List.cons_append, List.nil_append]
    rw [hF8.ch hq] at hC13
    have hF12 := hF8.trans hF12
    have hB14 := pNeed_pb (b := 58) chC_end (by decide) hB10
    refine j_loc (ls' := [(0, vR 1), (1, vI l)]) rfl ?_
    have hC := hC13
    have hB := hB14
    rw [← pTest_y hy3] at hC hB
    have ech := hF12.ch hq
    have hFl : FLC q l m N11 := (FLC.rf q l m).trans hF12
    refine lp_readLine_65 (r := (pThen r (pTest (chC m) false))) hl (hFl.cg g) hC (by rw [show mi N11 1 1 = mi m 1 1 from hFl.cell (by omega) (by omega)]; exact hB.up (by decide)) (fun m' a1 a2 a3 a4 a5 a6 a7 a8 => ?_)
    rw [ech] at a2 a3 a4 a6
    rw [show mi N11 q 8 = mi m q 8 from hF12.cell (by omega) (by omega)] at a6
    exact hx m' (hFl.comp a1) a2 a3 a4 (a5.trans (hF12.cell (by omega) (by omega))) a6 (a7.trans (hF12.cell (by omega) (by omega))) a8
  · rw [e1, e2]
    simp only [Option.toList_some, Option.toList_none, List.cons_append, List.nil_append]
    refine j_if_eq (tgt := 65) rfl (by decide) (by decide) (by decide) (fun _ => ?_) (fun z => absurd z (by decide))
    refine j_loc (ls' := [(0, vR 1), (1, vI l)]) rfl ?_
    rw [pTest_n hy3] at hx
    exact lp_readLine_65 hl g h hb hx

/-- a line that was read -/
def CRec (q : Nat) (l : Int) (M : AM) (z : LRec) : Prop := mi M (q + 2) l.toNat = z.2.1 ∧ mi M (q + 3) l.toNat = z.2.2.1 ∧ mi M (q + 5) l.toNat = z.2.2.2.2.1 ∧ mi M (q + 4) l.toNat = z.2.2.2.2.2
def PLC (q : Nat) (l : Int) (m M : AM) (R : Except Int (PSt × LRec)) : Prop := FLC q l m M ∧ match R with
  | .error p => CS q M (.error p)
  | .ok z => CS q M (.ok z.1) ∧ CRec q l M z.2 ∧ mi M q 7 = z_ior (mi m q 7) (if z.2.1 = 1 then z_ishl 1 l else 0) ∧ mi M q 8 = z_ior (mi m q 8) (if z.2.2.2.2.1 = 1 then z_ishl 1 l else 0)

theorem plc {q : Nat} {m M : AM} {a : Int} {w : List (Nat × Int)} {l : Int} (hq : 62 ≤ q) (h : CS q m (.ok (a, w))) (a1 : FLC q l m M) (a2 : CS q M (lnT (chC m) (pK (chC m) 33 (pThen (.ok (a + kxt (chC m) a 107, w)) (pTest (chC m) false))))) (a3 : ∀ s gg, pK (chC m) 33 (pThen (.ok (a + kxt (chC m) a 107, w)) (pTest (chC m) false)) = .ok s → pTgt (chC m) s.1 = .ok gg → mi M (q + 5) l.toNat = gg)
    (a4 : ∀ s, lnT (chC m) (pK (chC m) 33 (pThen (.ok (a + kxt (chC m) a 107, w)) (pTest (chC m) false))) = .ok s → mi M (q + 4) l.toNat = s.2.length) (a5 : mi M q 7 = z_ior (mi m q 7) (if chP (chC m) (.ok (a, w)) = 107 then z_ishl 1 l else 0)) (a6 : mi M q 8 = z_ior (mi m q 8) (if chP (chC m) (pThen (.ok (a + kxt (chC m) a 107, w)) (pTest (chC m) false)) = 33 then z_ishl 1 l else 0)) (a7 : mi M (q + 2) l.toNat = w.length) (a8 : ∀ s, pThen (.ok (a + kxt (chC m) a 107, w)) (pTest (chC m) false) = .ok s → mi M (q + 3) l.toNat = s.2.length) : PLC q l m M (pLine (chC m) false (a, w)) := by
  refine ⟨a1, ?_⟩
  have kk : ∀ b x : Int, (if chC m b = x then z_ishl 1 l else 0) = (if kxt (chC m) b x = 1 then z_ishl 1 l else 0) := by
    intro b x
    have := kxt_c (chC m) b x
    by_cases z : chC m b = x
    · rw [if_pos z, if_pos (by omega)]
    · rw [if_neg z, if_neg (by omega)]
  cases hR : pLine (chC m) false (a, w) with
  | error p =>
    rw [pLine_e hR] at a2
    exact a2
  | ok z =>
    obtain ⟨b, v, gg, h1, h2, h3, h4⟩ := pLine_o hR
    have e : pThen (.ok (a + kxt (chC m) a 107, w)) (pTest (chC m) false) = .ok (b, v) := h1
    rw [e] at a2 a3 a4 a6
    rw [h3] at a2 a4
    rw [pK_ok] at a3
    refine ⟨a2, ?_, ?_, ?_⟩
    · rw [h4]
      exact ⟨a7, a8 _ e, a3 _ gg rfl h2, a4 _ rfl⟩
    · rw [h4, a5]
      exact congrArg _ (kk a 107)
    · rw [h4, a6]
      exact congrArg _ (kk b 33)

set_option maxRecDepth 20000 in
set_option maxHeartbeats 4000000 in
theorem ct_X6_readLine {G : QW} {q : Nat} {m : AM} {a : Int} {w : List (Nat × Int)} {l : Int} (hl : 0 ≤ l ∧ l < 12) (g : CG q m) (h : CS q m (.ok (a, w))) (hb : PB (mi m 1 1) 0 (.ok (a, w))) : qM G mX6_readLine 52 0 0 [vR 1, vI l] m (fun x m' => x = none ∧ PLC q l m m' (pLine (chC m) false (a, w))) := by
  refine qM.intro okX6_readLine (Nat.le_of_ble_eq_true rfl) ?_
  have hRB := RBn 52
  have hq : 62 ≤ q := g.2.1
  have hlen := g.2.2.2.2.1
  refine j_aload_n rfl rfl ?_
  refine j_getR (q := q) rfl f_X6_26 rfl (((FLC.rf q l m).cg g).1.lt (by decide)) (((FLC.rf q l m).cg g).1.k (by decide) (by decide)) ((FLC.rf q l m).cg g).2.2.2.1 ?_
  refine j_dup rfl (Nat.ne_of_beq_eq_false rfl) ?_
  refine j_getI rfl f_X6_46 rfl ((FLC.rf q l m).cg g).2.2.1.1 ((FLC.rf q l m).cg g).2.2.1.2.1 ?_
  have u5_1 := mi_rng m q 7
  refine j_aload_n rfl rfl ?_
  refine j_bipush rfl (by decide) ?_
  refine j_callV (ci := 6) rfl okX6_takes c_X6_42 (ct_X6_takesU ((FLC.rf q l m).cg g) h (by rw [show mi m 1 1 = mi m 1 1 from (FLC.rf q l m).cell (by omega) (by omega)]; exact hb) (b := 107) (by decide)) rfl rfl (((FLC.rf q l m).cg g).1.lt (by decide)) (((FLC.rf q l m).cg g).1.k (by decide) (by decide)) (by decide) rfl (Nat.le_of_ble_eq_true rfl) (RB.call hRB (by omega) (by decide)) ⟨Nat.le_refl _, Nat.le_refl _⟩ ?_
  rintro vq Nw ⟨e1, hFw, hCw⟩
  skip
  rw [e1]
  clear e1
  simp only [Option.toList_some, Option.toList_none, List.cons_append, List.nil_append]
  have hFv := (FLC.rf q l m).trans hFw
  have hBw := pK_pb (b := 107) (c := chC m) chC_end (by decide) hb
  refine j_bif_eq (tgt := 23) rfl (by decide) (fun hb14_1 => ?_) (fun hb14_1 => ?_)
  · skip
    refine j_iconst rfl ?_
    refine j_ior rfl ?_
    have z24_1 := z_ior_rng (mi m q 7) 0
    refine j_putI rfl f_X6_46 rfl (hFv.cg g).2.2.1.1 (hFv.cg g).2.2.1.2.1 ?_
    refine j_aload_n rfl rfl ?_
    refine j_getR (q := q) rfl f_X6_26 rfl ((hFv.cg g).1.lt (by decide)) ((hFv.cg g).1.k (by decide) (by decide)) (hFv.cg g).2.2.2.1 ?_
    refine j_getR (q := (q + 2)) rfl f_X6_49 rfl (hFv.cg g).2.2.1.1 (hFv.cg g).2.2.1.2.1 ((hFv.cg g).2.2.1.q 1 2 13 12 (by decide)).1 ?_
    refine j_iload_n rfl rfl ?_
    refine j_aload_n rfl rfl ?_
    refine j_getR (q := q) rfl f_X6_26 rfl ((hFv.cg g).1.lt (by decide)) ((hFv.cg g).1.k (by decide) (by decide)) (hFv.cg g).2.2.2.1 ?_
    refine j_getI rfl f_X6_52 rfl (hFv.cg g).2.2.1.1 (hFv.cg g).2.2.1.2.1 ?_
    have u40_1 := mi_rng (si Nw q 7 (z_ior (mi m q 7) 0)) q 5
    refine j_iast (n := 12) rfl ((hFv.cg g).2.2.1.q 1 2 13 12 (by decide)).2.1 ((hFv.cg g).2.2.1.q 1 2 13 12 (by decide)).2.2.1 ((hFv.cg g).2.2.1.q 1 2 13 12 (by decide)).2.2.2 (by omega) (by omega) (by first | decide | omega) ?_
    refine j_loc (ls' := [(0, vR 1), (1, vI l)]) rfl ?_
    have hF7 := hFv.one (o := q) (k := 7) (Or.inl (by omega)) (z_ior (mi m q 7) 0)
    have hC7 := hCw.cell (o := q) (k := 7) (by omega) (by omega) (by omega) (z_ior (mi m q 7) 0)
    have j7 : mi (si Nw q 7 (z_ior (mi m q 7) 0)) q 7 = (z_ior (mi m q 7) 0) := mi_si_same _ _ _ (z_ior_rng _ _).1 (z_ior_rng _ _).2
    have j8 : mi (si Nw q 7 (z_ior (mi m q 7) 0)) q 8 = mi m q 8 := (mi_si_ne _ _ (by omega)).trans (hFw.cell (by omega) (by omega))
    have e7 : (if chP (chC m) (.ok (a, w)) = 107 then z_ishl 1 l else 0) = 0 := if_neg hb14_1
    generalize si Nw q 7 (z_ior (mi m q 7) 0) = M7 at hF7 hC7 j7 j8 ⊢
    have hu7 := hC7.used hBw (by omega) (by omega)
    have hF2 := hF7.one (o := q + 2) (k := l.toNat) (Or.inl (by omega)) (mi M7 q 5)
    have hC2 := hC7.cell (o := q + 2) (k := l.toNat) (by omega) (by omega) (by omega) (mi M7 q 5)
    have i7 : mi (si M7 (q + 2) l.toNat (mi M7 q 5)) q 7 = mi M7 q 7 := mi_si_ne _ _ (by omega)
    have i8 : mi (si M7 (q + 2) l.toNat (mi M7 q 5)) q 8 = mi M7 q 8 := mi_si_ne _ _ (by omega)
    have i2 : mi (si M7 (q + 2) l.toNat (mi M7 q 5)) (q + 2) l.toNat = mi M7 q 5 := mi_si_same _ _ _ (by omega) (by omega)
    generalize si M7 (q + 2) l.toNat (mi M7 q 5) = M2 at hF2 hC2 i7 i8 i2 ⊢
    have ech := hF2.ch hq
    have hBm := hBw
    rw [pK_ok] at hC2 hC7 hBm
    refine lp_readLine_44 (r := .ok (a + kxt (chC m) a 107, w)) hl (hF2.cg g) hC2 (by rw [show mi M2 1 1 = mi m 1 1 from hF2.cell (by omega) (by omega)]; exact hBm) (fun m' a1 a2 a3 a4 a5 a6 a7 a8 => ⟨rfl, ?_⟩)
    rw [ech] at a2 a3 a4 a6 a8
    exact plc hq h (hF2.comp a1) a2 a3 a4 (a5.trans (i7.trans (j7.trans (by rw [e7])))) (a6.trans (by rw [i8, j8])) (a7.trans (i2.trans (hC7.len _ rfl))) a8
  · skip
    refine j_iconst rfl ?_
    refine j_iload_n rfl rfl ?_
    refine j_ishl rfl ?_
    have z19_1 := z_ishl_rng 1 l
    refine j_goto (tgt := 24) rfl (by decide) ?_
    refine j_ior rfl ?_
    have z24_2 := z_ior_rng (mi m q 7) (z_ishl 1 l)
    refine j_putI rfl f_X6_46 rfl (hFv.cg g).2.2.1.1 (hFv.cg g).2.2.1.2.1 ?_
    refine j_aload_n rfl rfl ?_
    refine j_getR (q := q) rfl f_X6_26 rfl ((hFv.cg g).1.lt (by decide)) ((hFv.cg g).1.k (by decide) (by decide)) (hFv.cg g).2.2.2.1 ?_
    refine j_getR (q := (q + 2)) rfl f_X6_49 rfl (hFv.cg g).2.2.1.1 (hFv.cg g).2.2.1.2.1 ((hFv.cg g).2.2.1.q 1 2 13 12 (by decide)).1 ?_
    refine j_iload_n rfl rfl ?_
    refine j_aload_n rfl rfl ?_
    refine j_getR (q := q) rfl f_X6_26 rfl ((hFv.cg g).1.lt (by decide)) ((hFv.cg g).1.k (by decide) (by decide)) (hFv.cg g).2.2.2.1 ?_
    refine j_getI rfl f_X6_52 rfl (hFv.cg g).2.2.1.1 (hFv.cg g).2.2.1.2.1 ?_
    have u40_2 := mi_rng (si Nw q 7 (z_ior (mi m q 7) (z_ishl 1 l))) q 5
    refine j_iast (n := 12) rfl ((hFv.cg g).2.2.1.q 1 2 13 12 (by decide)).2.1 ((hFv.cg g).2.2.1.q 1 2 13 12 (by decide)).2.2.1 ((hFv.cg g).2.2.1.q 1 2 13 12 (by decide)).2.2.2 (by omega) (by omega) (by first | decide | omega) ?_
    refine j_loc (ls' := [(0, vR 1), (1, vI l)]) rfl ?_
    have hF7 := hFv.one (o := q) (k := 7) (Or.inl (by omega)) (z_ior (mi m q 7) (z_ishl 1 l))
    have hC7 := hCw.cell (o := q) (k := 7) (by omega) (by omega) (by omega) (z_ior (mi m q 7) (z_ishl 1 l))
    have j7 : mi (si Nw q 7 (z_ior (mi m q 7) (z_ishl 1 l))) q 7 = (z_ior (mi m q 7) (z_ishl 1 l)) := mi_si_same _ _ _ (z_ior_rng _ _).1 (z_ior_rng _ _).2
    have j8 : mi (si Nw q 7 (z_ior (mi m q 7) (z_ishl 1 l))) q 8 = mi m q 8 := (mi_si_ne _ _ (by omega)).trans (hFw.cell (by omega) (by omega))
    have e7 : (if chP (chC m) (.ok (a, w)) = 107 then z_ishl 1 l else 0) = z_ishl 1 l := if_pos hb14_1
    generalize si Nw q 7 (z_ior (mi m q 7) (z_ishl 1 l)) = M7 at hF7 hC7 j7 j8 ⊢
    have hu7 := hC7.used hBw (by omega) (by omega)
    have hF2 := hF7.one (o := q + 2) (k := l.toNat) (Or.inl (by omega)) (mi M7 q 5)
    have hC2 := hC7.cell (o := q + 2) (k := l.toNat) (by omega) (by omega) (by omega) (mi M7 q 5)
    have i7 : mi (si M7 (q + 2) l.toNat (mi M7 q 5)) q 7 = mi M7 q 7 := mi_si_ne _ _ (by omega)
    have i8 : mi (si M7 (q + 2) l.toNat (mi M7 q 5)) q 8 = mi M7 q 8 := mi_si_ne _ _ (by omega)
    have i2 : mi (si M7 (q + 2) l.toNat (mi M7 q 5)) (q + 2) l.toNat = mi M7 q 5 := mi_si_same _ _ _ (by omega) (by omega)
    generalize si M7 (q + 2) l.toNat (mi M7 q 5) = M2 at hF2 hC2 i7 i8 i2 ⊢
    have ech := hF2.ch hq
    have hBm := hBw
    rw [pK_ok] at hC2 hC7 hBm
    refine lp_readLine_44 (r := .ok (a + kxt (chC m) a 107, w)) hl (hF2.cg g) hC2 (by rw [show mi M2 1 1 = mi m 1 1 from hF2.cell (by omega) (by omega)]; exact hBm) (fun m' a1 a2 a3 a4 a5 a6 a7 a8 => ⟨rfl, ?_⟩)
    rw [ech] at a2 a3 a4 a6 a8
    exact plc hq h (hF2.comp a1) a2 a3 a4 (a5.trans (i7.trans (j7.trans (by rw [e7])))) (a6.trans (by rw [i8, j8])) (a7.trans (i2.trans (hC7.len _ rfl))) a8


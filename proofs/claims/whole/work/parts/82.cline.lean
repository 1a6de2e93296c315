theorem pTg_pb {c : Int → Int} {N : Int} (hc : ∀ x, N ≤ x → c x < 0) {k : Int} {r : PRes} (h : PB N k r) : PB N k (pThen r (pTg c)) := by
  intro s hs
  obtain ⟨⟨a, w⟩, rfl, e⟩ := pThen_ok hs
  have g := h _ rfl
  dsimp only at g
  have e : (match pTgt c a with | .error p => (.error p : PRes) | .ok _ => .ok ((a + 1) + 1, w)) = .ok s := e
  cases ht : pTgt c a with
  | error p => rw [ht] at e; simp at e
  | ok gg =>
    rw [ht] at e
    simp only [Except.ok.injEq] at e
    subst e
    have : 0 ≤ c (a + 1) := by
      refine Int.not_lt.mp (fun z => ?_)
      unfold pTgt at ht
      (repeat' split at ht) <;> first | (simp at ht; done) | omega
    have := lt_end (c := c) hc this
    dsimp only
    omega
theorem pK_ok (c : Int → Int) (b a : Int) (w : List (Nat × Int)) : pK c b (.ok (a, w)) = .ok (a + kxt c a b, w) := by
  unfold pK kxt
  show (if c a = b then _ else _) = _
  by_cases h : c a = b
  · rw [if_pos h, if_pos h]
    rfl
  · rw [if_neg h, if_neg h, show a + 0 = a by omega]
/-- a line, step by step -/
def lnT (c : Int → Int) (r : PRes) : PRes := pThen (pNeed c 61 (pThen r (pTg c))) (pAll c false)
theorem pLine_e {c : Int → Int} {a : Int} {w : List (Nat × Int)} {p : Int} (h : pLine c false (a, w) = .error p) : lnT c (pK c 33 (pThen (.ok (a + kxt c a 107, w)) (pTest c false))) = .error p := by
  show lnT c (pK c 33 (pTest c false (a + kxt c a 107, w))) = _
  unfold pLine at h
  dsimp only at h
  cases ht : pTest c false (a + kxt c a 107, w) with
  | error p2 =>
    rw [ht] at h
    simp only [Except.error.injEq] at h
    subst h
    unfold pK
    split <;> rfl
  | ok q =>
    obtain ⟨b, v⟩ := q
    rw [ht] at h
    rw [pK_ok]
    have h : pRest c false (kxt c a 107) w.length (b, v) = .error p := h
    unfold pRest at h
    dsimp only at h
    show pThen (pNeed c 61 (match pTgt c (b + kxt c b 33) with | .error p => (.error p : PRes) | .ok _ => .ok (((b + kxt c b 33) + 1) + 1, v))) (pAll c false) = _
    cases hg : pTgt c (b + kxt c b 33) with
    | error p2 =>
      rw [hg] at h
      simp only [Except.error.injEq] at h
      subst h
      rfl
    | ok gg =>
      rw [hg] at h
      show pThen (if c (((b + kxt c b 33) + 1) + 1) = 61 then (.ok ((((b + kxt c b 33) + 1) + 1) + 1, v) : PRes) else .error (((b + kxt c b 33) + 1) + 1)) (pAll c false) = _
      dsimp only at h
      by_cases h61 : c (((b + kxt c b 33) + 1) + 1) = 61
      · rw [if_pos h61] at h ⊢
        show pAll c false _ = _
        cases hp : pAll c false ((((b + kxt c b 33) + 1) + 1) + 1, v) with
        | error p2 => rw [hp] at h; simp only [Except.error.injEq] at h; rw [h]
        | ok r => rw [hp] at h; simp at h
      · rw [if_neg h61] at h ⊢
        simp only [Except.error.injEq] at h
        rw [← h]
        rfl
theorem pLine_o {c : Int → Int} {a : Int} {w : List (Nat × Int)} {z : PSt × LRec} (h : pLine c false (a, w) = .ok z) : ∃ (b : Int) (v : List (Nat × Int)) (gg : Int), pTest c false (a + kxt c a 107, w) = .ok (b, v) ∧ pTgt c (b + kxt c b 33) = .ok gg ∧ lnT c (pK c 33 (.ok (b, v))) = .ok z.1 ∧ z.2 = (kxt c a 107, (w.length : Int), (v.length : Int), kxt c b 33, gg, (z.1.2.length : Int)) := by
  unfold pLine at h
  dsimp only at h
  cases ht : pTest c false (a + kxt c a 107, w) with
  | error p2 => rw [ht] at h; simp at h
  | ok q =>
    obtain ⟨b, v⟩ := q
    rw [ht] at h
    have h : pRest c false (kxt c a 107) w.length (b, v) = .ok z := h
    unfold pRest at h
    dsimp only at h
    cases hg : pTgt c (b + kxt c b 33) with
    | error p2 => rw [hg] at h; simp at h
    | ok gg =>
      rw [hg] at h
      dsimp only at h
      by_cases h61 : c (((b + kxt c b 33) + 1) + 1) = 61
      · rw [if_pos h61] at h
        cases hp : pAll c false ((((b + kxt c b 33) + 1) + 1) + 1, v) with
        | error p2 => rw [hp] at h; simp at h
        | ok r =>
          rw [hp] at h
          simp only [Except.ok.injEq] at h
          refine ⟨b, v, gg, rfl, hg, ?_, ?_⟩
          · rw [pK_ok]
            show pThen (pNeed c 61 (match pTgt c (b + kxt c b 33) with | .error p => (.error p : PRes) | .ok _ => .ok (((b + kxt c b 33) + 1) + 1, v))) (pAll c false) = _
            rw [hg]
            show pThen (if c (((b + kxt c b 33) + 1) + 1) = 61 then (.ok ((((b + kxt c b 33) + 1) + 1) + 1, v) : PRes) else .error (((b + kxt c b 33) + 1) + 1)) (pAll c false) = _
            rw [if_pos h61]
            show pAll c false _ = _
            rw [hp, ← h]
          · rw [← h]
      · rw [if_neg h61] at h
        simp at h
theorem CS.len {q : Nat} {m : AM} {r : PRes} (h : CS q m r) : ∀ s, r = .ok s → mi m q 5 = s.2.length := fun s e => by subst e; exact h.2.2.1

set_option maxRecDepth 20000 in
set_option maxHeartbeats 4000000 in
theorem lp_readLine_109 {G : QW} {q : Nat} {m : AM} {r : PRes} {l : Int} {Rp : Option Vl → AM → Prop} (hl : 0 ≤ l ∧ l < 12) (g : CG q m) (h : CS q m r) (hb : PB (mi m 1 1) 0 r) (hx : ∀ m', FLC q l m m' → CS q m' (lnT (chC m) r) → (∀ s gg, r = .ok s → pTgt (chC m) s.1 = .ok gg → mi m' (q + 5) l.toNat = gg) → (∀ s, lnT (chC m) r = .ok s → mi m' (q + 4) l.toNat = s.2.length) → mi m' q 7 = mi m q 7 → mi m' q 8 = mi m q 8 → mi m' (q + 2) l.toNat = mi m (q + 2) l.toNat → mi m' (q + 3) l.toNat = mi m (q + 3) l.toNat → Rp none m') : qJ G mX6_readLine { frames := 52, cells := 0, slots := 0, locals := 60 * 52 } (qF G Rp 0 0) 109 [(0, vR 1), (1, vI l)] [] m 0 0 := by
  have hRB := RBn 52
  have hq : 62 ≤ q := g.2.1
  have hlen := g.2.2.2.2.1
  refine j_aload_n rfl rfl ?_
  refine j_iload_n rfl rfl ?_
  refine j_callV (ci := 6) rfl okX6_readTarget c_X6_68 (ct_X6_readTarget ((FTC.rf q l m).cg g) h (by rw [show mi m 1 1 = mi m 1 1 from (FTC.rf q l m).cell (by omega) (by omega)]; exact (hb.up (by decide))) hl) rfl rfl (((FTC.rf q l m).cg g).1.lt (by decide)) (((FTC.rf q l m).cg g).1.k (by decide) (by decide)) (by decide) rfl (Nat.le_of_ble_eq_true rfl) (RB.call hRB (by omega) (by decide)) ⟨Nat.le_refl _, Nat.le_refl _⟩ ?_
  rintro vq Nt ⟨e1, hT, hC1, hgg⟩
  rw [e1]
  clear e1
  simp only [Option.toList_some, Option.toList_none, List.cons_append, List.nil_append]
  have hB1 := pTg_pb chC_end hb
  refine j_aload_n rfl rfl ?_
  refine j_bipush rfl (by decide) ?_
  refine j_callV (ci := 6) rfl okX6_need c_X6_59 (ct_X6_need (hT.cg g) hC1 (by rw [show mi Nt 1 1 = mi m 1 1 from hT.cell (by omega) (by omega)]; exact (hB1.up (by decide))) (b := 61) (by decide)) rfl rfl ((hT.cg g).1.lt (by decide)) ((hT.cg g).1.k (by decide) (by decide)) (by decide) rfl (Nat.le_of_ble_eq_true rfl) (RB.call hRB (by omega) (by decide)) ⟨Nat.le_refl _, Nat.le_refl _⟩ ?_
  rintro vq N1 ⟨e1, hF2, hC3⟩
  rw [e1]
  clear e1
  simp only [Option.toList_some, Option.toList_none, List.cons_append, List.nil_append]
  rw [hT.ch hq] at hC3
  have hK1 := hF2
  have hF2 := hT.trans hF2
  have hB4 := pNeed_pb (b := 61) chC_end (by decide) hB1
  refine j_aload_n rfl rfl ?_
  refine j_iconst rfl ?_
  refine j_iconst rfl ?_
  refine j_callV (ci := 6) rfl okX6_readPart c_X6_55 (ct_X6_readPartA G q N1 (pNeed (chC m) 61 (pThen r (pTg (chC m)))) (hF2.cg g) hC3 (by rw [show mi N1 1 1 = mi m 1 1 from hF2.cell (by omega) (by omega)]; exact (hB4.up (by decide)))) rfl rfl ((hF2.cg g).1.lt (by decide)) ((hF2.cg g).1.k (by decide) (by decide)) (by decide) rfl (Nat.le_of_ble_eq_true rfl) (RB.call hRB (by omega) (by decide)) ⟨Nat.le_refl _, Nat.le_refl _⟩ ?_
  rintro vq N5 ⟨e1, hF6, hC7⟩
  rw [e1]
  clear e1
  simp only [Option.toList_some, Option.toList_none, List.cons_append, List.nil_append]
  rw [hF2.ch hq] at hC7
  have hK : ∀ o j : Nat, ¬ (o = q + 1 ∨ (o = q ∧ j = 5)) → ¬ (o = 1 ∧ (j = 2 ∨ j = 3)) → mi N5 o j = mi Nt o j := fun o j a b => (hF6.cell a b).trans (hK1.cell a b)
  have hF6 := hF2.trans hF6
  have hC7 : CS q N5 (lnT (chC m) r) := hC7
  have hB8 : PB (mi m 1 1) 0 (lnT (chC m) r) := pGood.pb (pAll_good chC_end false) hB4
  refine j_aload_n rfl rfl ?_
  refine j_getR (q := q) rfl f_X6_26 rfl ((hF6.cg g).1.lt (by decide)) ((hF6.cg g).1.k (by decide) (by decide)) (hF6.cg g).2.2.2.1 ?_
  refine j_getR (q := (q + 4)) rfl f_X6_71 rfl (hF6.cg g).2.2.1.1 (hF6.cg g).2.2.1.2.1 ((hF6.cg g).2.2.1.q 3 4 13 12 (by decide)).1 ?_
  refine j_iload_n rfl rfl ?_
  refine j_aload_n rfl rfl ?_
  refine j_getR (q := q) rfl f_X6_26 rfl ((hF6.cg g).1.lt (by decide)) ((hF6.cg g).1.k (by decide) (by decide)) (hF6.cg g).2.2.2.1 ?_
  refine j_getI rfl f_X6_52 rfl (hF6.cg g).2.2.1.1 (hF6.cg g).2.2.1.2.1 ?_
  have u138_1 := mi_rng N5 q 5
  refine j_iast (n := 12) rfl ((hF6.cg g).2.2.1.q 3 4 13 12 (by decide)).2.1 ((hF6.cg g).2.2.1.q 3 4 13 12 (by decide)).2.2.1 ((hF6.cg g).2.2.1.q 3 4 13 12 (by decide)).2.2.2 (by omega) (by omega) (by first | decide | omega) ?_
  refine j_vret rfl rfl ?_ rfl (Nat.le_refl _)
  have hu := hC7.used hB8 (by omega) (by omega)
  refine hx _ (((FLC.rf q l m).ft hF6).one (Or.inl (by omega)) _) (hC7.cell (by omega) (by omega) (by omega) _) (fun s gg a b => (mi_si_ne _ _ (by omega)).trans ((hK (q + 5) l.toNat (by omega) (by omega)).trans (hgg s gg a b))) (fun s e => ?_) ?_ ?_ ?_ ?_
  · rw [mi_si_same _ _ _ (by omega) (by omega)]
    exact hC7.len s e
  · exact (mi_si_ne _ _ (by omega)).trans (hF6.cell (by omega) (by omega))
  · exact (mi_si_ne _ _ (by omega)).trans (hF6.cell (by omega) (by omega))
  · exact (mi_si_ne _ _ (by omega)).trans (hF6.cell (by omega) (by omega))
  · exact (mi_si_ne _ _ (by omega)).trans (hF6.cell (by omega) (by omega))


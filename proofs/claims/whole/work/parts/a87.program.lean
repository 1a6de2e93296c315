/-! program(): both sides read a text alike, and put it into a box alike -/
theorem pgM_2 (N : AM) (b : Int) : (pgM N b).2 = N.2 := rfl
theorem pgM_o {N : AM} {b : Int} {o j : Nat} (h1 : ¬ (o = 86 ∧ j = 16)) (h2 : ¬ (o = 91 ∧ j = b.toNat)) (h3 : ¬ ((92 ≤ o ∧ o ≤ 97) ∧ 12 * b ≤ (j : Int) ∧ (j : Int) < 12 * b + 12)) (h4 : ¬ ((o = 98 ∨ o = 99) ∧ 170 * b ≤ (j : Int) ∧ (j : Int) < 170 * b + mi N 86 20)) : mi (pgM N b) o j = mi N o j := by
  unfold pgM
  rw [mi_mvr, if_neg (by omega), mi_mvr, if_neg (by omega), mi_mvr, if_neg (by omega), mi_mvr, if_neg (by omega), mi_mvr, if_neg (by omega), mi_mvr, if_neg (by omega), mi_mvr, if_neg (by omega), mi_mvr, if_neg (by omega), mi_si_ne _ _ h2, mi_si_ne _ _ h1]
theorem pgM_16 {N : AM} {b : Int} : mi (pgM N b) 86 16 = 0 := by
  unfold pgM
  rw [mi_mvr, if_neg (by omega), mi_mvr, if_neg (by omega), mi_mvr, if_neg (by omega), mi_mvr, if_neg (by omega), mi_mvr, if_neg (by omega), mi_mvr, if_neg (by omega), mi_mvr, if_neg (by omega), mi_mvr, if_neg (by omega), mi_si_ne _ _ (by omega), mi_si_same _ _ _ (by decide) (by decide)]
theorem pgM_91 {N : AM} {b : Int} : mi (pgM N b) 91 b.toNat = mi N 91 6 := by
  unfold pgM
  rw [mi_mvr, if_neg (by omega), mi_mvr, if_neg (by omega), mi_mvr, if_neg (by omega), mi_mvr, if_neg (by omega), mi_mvr, if_neg (by omega), mi_mvr, if_neg (by omega), mi_mvr, if_neg (by omega), mi_mvr, if_neg (by omega)]
  exact mi_si_same _ _ _ (mi_rng _ _ _).1 (mi_rng _ _ _).2
theorem pgM_r {N : AM} {b : Int} (hb : 0 ≤ b) {l : Int} (l0 : 0 ≤ l) (l1 : l < 12) {p : Nat} (p0 : 92 ≤ p) (p1 : p ≤ 97) : mi (pgM N b) p ((12 * b) + l).toNat = mi N p (72 + l).toNat := by
  have e : ((((12 * b) + l).toNat : Nat) : Int) - 12 * b + 72 = 72 + l := by omega
  unfold pgM
  rcases (by omega : p = 92 ∨ p = 93 ∨ p = 94 ∨ p = 95 ∨ p = 96 ∨ p = 97) with rfl | rfl | rfl | rfl | rfl | rfl
  · rw [mi_mvr, if_neg (by omega), mi_mvr, if_neg (by omega), mi_mvr, if_neg (by omega), mi_mvr, if_neg (by omega), mi_mvr, if_neg (by omega), mi_mvr, if_neg (by omega), mi_mvr, if_neg (by omega), mi_mvr, if_pos (by omega), e, mi_si_ne _ _ (by omega), mi_si_ne _ _ (by omega)]
  · rw [mi_mvr, if_neg (by omega), mi_mvr, if_neg (by omega), mi_mvr, if_neg (by omega), mi_mvr, if_neg (by omega), mi_mvr, if_neg (by omega), mi_mvr, if_neg (by omega), mi_mvr, if_pos (by omega), e, mi_mvr, if_neg (by omega), mi_si_ne _ _ (by omega), mi_si_ne _ _ (by omega)]
  · rw [mi_mvr, if_neg (by omega), mi_mvr, if_neg (by omega), mi_mvr, if_neg (by omega), mi_mvr, if_neg (by omega), mi_mvr, if_neg (by omega), mi_mvr, if_pos (by omega), e, mi_mvr, if_neg (by omega), mi_mvr, if_neg (by omega), mi_si_ne _ _ (by omega), mi_si_ne _ _ (by omega)]
  · rw [mi_mvr, if_neg (by omega), mi_mvr, if_neg (by omega), mi_mvr, if_neg (by omega), mi_mvr, if_neg (by omega), mi_mvr, if_pos (by omega), e, mi_mvr, if_neg (by omega), mi_mvr, if_neg (by omega), mi_mvr, if_neg (by omega), mi_si_ne _ _ (by omega), mi_si_ne _ _ (by omega)]
  · rw [mi_mvr, if_neg (by omega), mi_mvr, if_neg (by omega), mi_mvr, if_neg (by omega), mi_mvr, if_pos (by omega), e, mi_mvr, if_neg (by omega), mi_mvr, if_neg (by omega), mi_mvr, if_neg (by omega), mi_mvr, if_neg (by omega), mi_si_ne _ _ (by omega), mi_si_ne _ _ (by omega)]
  · rw [mi_mvr, if_neg (by omega), mi_mvr, if_neg (by omega), mi_mvr, if_pos (by omega), e, mi_mvr, if_neg (by omega), mi_mvr, if_neg (by omega), mi_mvr, if_neg (by omega), mi_mvr, if_neg (by omega), mi_mvr, if_neg (by omega), mi_si_ne _ _ (by omega), mi_si_ne _ _ (by omega)]
theorem pgM_c {N : AM} {b : Int} (hb : 0 ≤ b) {i : Nat} (hi : (i : Int) < mi N 86 20) : mi (pgM N b) 98 ((170 * b) + i).toNat = mi N 98 ((1020 : Int) + i).toNat ∧ mi (pgM N b) 99 ((170 * b) + i).toNat = mi N 99 ((1020 : Int) + i).toNat := by
  have e : ((((170 * b) + i).toNat : Nat) : Int) - 170 * b + 1020 = (1020 : Int) + i := by omega
  unfold pgM
  constructor
  · rw [mi_mvr, if_neg (by omega), mi_mvr, if_pos (by omega), e, mi_mvr, if_neg (by omega), mi_mvr, if_neg (by omega), mi_mvr, if_neg (by omega), mi_mvr, if_neg (by omega), mi_mvr, if_neg (by omega), mi_mvr, if_neg (by omega), mi_si_ne _ _ (by omega), mi_si_ne _ _ (by omega)]
  · rw [mi_mvr, if_pos (by omega), e, mi_mvr, if_neg (by omega), mi_mvr, if_neg (by omega), mi_mvr, if_neg (by omega), mi_mvr, if_neg (by omega), mi_mvr, if_neg (by omega), mi_mvr, if_neg (by omega), mi_mvr, if_neg (by omega), mi_si_ne _ _ (by omega), mi_si_ne _ _ (by omega)]
theorem mvr_any {N : AM} {o : Nat} {d s e : Int} {p j : Nat} {lo hi : Int} (h : ∀ j, lo ≤ mi N p j ∧ mi N p j ≤ hi) : lo ≤ mi (mvr N o d s e) p j ∧ mi (mvr N o d s e) p j ≤ hi := by
  rw [mi_mvr]
  split
  · next q => rw [← q.1]; exact h _
  · exact h _
theorem pgM_any {N : AM} {b : Int} {p j : Nat} {lo hi : Int} (hp : 92 ≤ p) (h : ∀ j, lo ≤ mi N p j ∧ mi N p j ≤ hi) : lo ≤ mi (pgM N b) p j ∧ mi (pgM N b) p j ≤ hi := by
  unfold pgM
  refine mvr_any (fun j => mvr_any (fun j => mvr_any (fun j => mvr_any (fun j => mvr_any (fun j => mvr_any (fun j => mvr_any (fun j => mvr_any (fun j => ?_))))))))
  rw [mi_si_ne _ _ (by omega), mi_si_ne _ _ (by omega)]
  exact h j
theorem pgM_im {N : AM} {b : Int} (h : IM N) : IM (pgM N b) := by
  refine h.rg (fun q hq => ?_) (fun q hq j => ?_) (fun j hj => ?_)
  · have := (by decide : ∀ q ∈ imS, ¬ (91 ≤ q.1 ∧ q.1 ≤ 99)) q hq
    by_cases c : q.1 = 86 ∧ q.2.1 = 16
    · have g := (by decide : ∀ q ∈ imS, q.1 = 86 → q.2.1 = 16 → q.2.2 = ((0 : Int), (160 : Int))) q hq c.1 c.2
      refine Or.inr ?_
      rw [c.1, c.2, g, pgM_16]
      decide
    · exact Or.inl (pgM_o c (by omega) (by omega) (by omega))
  · have := (by decide : ∀ q ∈ imA, q.1 ≠ 86) q hq
    by_cases c : 92 ≤ q.1
    · exact Or.inr (pgM_any c (h.2.1 q hq))
    · by_cases c2 : q.1 = 91 ∧ j = b.toNat
      · refine Or.inr ?_
        rw [c2.1, c2.2, pgM_91, ← c2.1]
        exact h.2.1 q hq 6
      · exact Or.inl (pgM_o (by omega) c2 (by omega) (by omega))
  · rw [pgM_o (by omega) (by omega) (by omega) (by omega), pgM_o (by omega) (by omega) (by omega) (by omega), pgM_o (by omega) (by omega) (by omega) (by omega), pgM_o (by omega) (by omega) (by omega) (by omega)]
    exact h.2.2 j hj
/-- an empty text -/
theorem prX_0 {c : Int → Int} (six : Bool) (h : c 0 = -1) : prX c six 0 = .error 0 := by
  simp [prX, prL, pLine, pTest, kxt, pRest, pTgt, h]
/-- both sides read the same text -/
theorem tape_same {m C : AM} (h : Inv m) (e16 : mi C 86 16 = mi m 86 16) (e100 : ∀ j, mi C 100 j = mi m 100 j) : prX (chR C) true (mi C 86 16) = prX (chC m) false (mi m 1 1) := by
  have k5 := h.k5
  have l := h.i.s 1 1 0 160 (by decide)
  rw [e16, ← k5.1]
  by_cases z : mi m 1 1 = 0
  · rw [z, prX_0 true, prX_0 false]
    · unfold chC
      rw [if_neg (by omega)]
    · unfold chR
      rw [e16, ← k5.1, if_neg (by omega)]
  · have e : chR C = chC m := by
      funext x
      unfold chR chC
      rw [e16, ← k5.1]
      by_cases y : x < mi m 1 1
      · rw [if_pos y, if_pos y, e100, k5.2 x.toNat (by rw [← k5.1]; omega)]
        by_cases w : mi m 2 x.toNat < 128
        · rw [if_pos w, if_neg (by omega)]
        · rw [if_neg w, if_pos (by omega)]
      · rw [if_neg y, if_neg y]
    rw [e]
    exact prX_same (fun x hx => by unfold chC; rw [if_neg (by omega)]; decide)
/-- the class's memory behind a text -/
theorem cls_prog {m N N2 : AM} {q : Nat} (hB : BS q m N) (hF : FR2 q N N2) : N2.2 = (sr m 1 4 (some q)).2 ∧ ∀ o j : Nat, ¬ (q ≤ o ∧ o ≤ q + 5) → ¬ (o = 1 ∧ (j = 2 ∨ j = 3)) → mi N2 o j = mi m o j :=
  ⟨hF.1.trans hB.1, fun o j a b => (hF.cell a b).trans (hB.cell (by omega) b)⟩
theorem sr_eq {m n : AM} {o k : Nat} {v : Option Nat} (e : m.2 = n.2) : (sr m o k v).2 = (sr n o k v).2 := by
  show (m.2.1, u2 m.2.2.1 o k v, m.2.2.2) = (n.2.1, u2 n.2.2.1 o k v, n.2.2.2)
  rw [e]
theorem sr_2 {m : AM} (o k : Nat) (v : Option Nat) : (sr m o k v).2.2.2 = m.2.2.2 := rfl
theorem FG.lo {m N : AM} (h : FG m N) {o j : Nat} (ho : o < 86 ∨ 99 < o) : mi N o j = mi m o j := h.cell (by omega) (by omega) (by omega) (by omega)
theorem mr_e2 {m N : AM} (e : N.2 = m.2) : mr N = mr m := mr2 (congrArg (fun q => q.2) e)
theorem ml_e2 {m N : AM} (e : N.2 = m.2) (c j : Nat) : ml N c j = ml m c j := congrArg (fun q : (Nat → Nat → Int) × _ => (zl (q.1 c j)).toInt) e
/-- ranges in the class's memory behind a text -/
theorem cls_im {m C : AM} {q : Nat} (h : IM m) (hq : q = 62 ∨ 148 ≤ q) (e : ∀ o j : Nat, ¬ (q ≤ o ∧ o ≤ q + 5) → ¬ (o = 1 ∧ 1 ≤ j ∧ j ≤ 3) → mi C o j = mi m o j) (e1 : mi C 1 1 = 0) (e3 : mi C 1 3 = 0 ∨ mi C 1 3 = 1) : IM C := by
  refine h.rg (fun s hs => ?_) (fun s hs j => ?_) (fun j hj => ?_)
  · have := (by decide : ∀ s ∈ imS, s.1 < 145 ∧ ¬ (62 ≤ s.1 ∧ s.1 ≤ 67) ∧ ¬ (s.1 = 1 ∧ s.2.1 = 2)) s hs
    by_cases c : s.1 = 1 ∧ s.2.1 = 1
    · have g := (by decide : ∀ s ∈ imS, s.1 = 1 → s.2.1 = 1 → s.2.2 = ((0 : Int), (160 : Int))) s hs c.1 c.2
      refine Or.inr ?_
      rw [c.1, c.2, g, e1]
      decide
    · by_cases c2 : s.1 = 1 ∧ s.2.1 = 3
      · have g := (by decide : ∀ s ∈ imS, s.1 = 1 → s.2.1 = 3 → s.2.2 = ((0 : Int), (1 : Int))) s hs c2.1 c2.2
        refine Or.inr ?_
        rw [c2.1, c2.2, g]
        show (0 : Int) ≤ mi C 1 3 ∧ mi C 1 3 ≤ 1
        omega
      · exact Or.inl (e _ _ (by omega) (by omega))
  · have := (by decide : ∀ s ∈ imA, s.1 < 145 ∧ ¬ (62 ≤ s.1 ∧ s.1 ≤ 67) ∧ s.1 ≠ 1) s hs
    exact Or.inl (e _ _ (by omega) (by omega))
  · rw [e 139 _ (by omega) (by omega), e 86 1 (by omega) (by omega), e _ 2 (by omega) (by omega), e 0 16 (by omega) (by omega)]
    exact h.2.2 j hj
/-- a text that is wrong -/
theorem prog_err {m C N' : AM} {b : Int} {q : Nat} (h : Inv m) (hb : 0 ≤ b ∧ b < mi m 0 16) (hq : mr m 0 15 = some q) (e2 : C.2 = (sr m 1 4 (some q)).2) (eC : ∀ o j : Nat, ¬ (q ≤ o ∧ o ≤ q + 5) → ¬ (o = 1 ∧ 1 ≤ j ∧ j ≤ 3) → mi C o j = mi m o j) (t1 : mi C 1 1 = 0) (hG : FG C N') (hI : IM N') : Inv (si N' 86 16 0) := by
  have k0 := h.k0
  have h16 := h.i.s 0 16 0 6 (by decide)
  have e11 : mi m 0 16 = mi m 86 1 := h.1.2.1.1
  have qP : isP m q ∧ ∀ c : Int, 0 ≤ c → c < mi m 0 16 → pg m c ≠ q := by
    obtain ⟨s, g6, g7, g8⟩ := k0.2.2.2.2.2
    rw [hq] at g6
    obtain rfl := Option.some.inj g6
    exact ⟨g7, g8⟩
  have qlow := qP.1.low k0
  have B1 := (k0.1 b hb.1 hb.2).1
  have pP : isP m (pg m b) := (k0.1 b hb.1 hb.2).2.2
  have plow := pP.low k0
  have pb := pP.bx k0 hb.1 hb.2
  have qb := qP.1.bx k0 hb.1 hb.2
  have qp := qP.1.pp k0 pP (Ne.symm (qP.2 b hb.1 hb.2))
  have eN : (si N' 86 16 0).2 = (sr m 1 4 (some q)).2 := hG.1.trans e2
  have iN : IM (si N' 86 16 0) := hI.scal 0 160 (by decide) (by decide) (by decide) (by decide) (by decide) (by decide) (by intro j hj; omega) (by decide)
  have c0 : ∀ o j : Nat, ¬ (q ≤ o ∧ o ≤ q + 5) → ¬ (o = 1 ∧ 1 ≤ j ∧ j ≤ 3) → ¬ (o = 86 ∧ 16 ≤ j ∧ j ≤ 20) → ¬ (o = 91 ∧ j = 6) → ¬ ((92 ≤ o ∧ o ≤ 97) ∧ 72 ≤ j) → ¬ ((o = 98 ∨ o = 99) ∧ 1020 ≤ j) → mi (si N' 86 16 0) o j = mi m o j := fun o j x1 x2 x3 x4 x5 x6 => by
    rw [mi_si_ne _ _ (by omega), hG.cell (by omega) (by omega) (by omega) (by omega)]
    exact eC o j x1 x2
  have tN : mi (si N' 86 16 0) 1 1 = 0 := by
    rw [mi_si_ne _ _ (by omega), hG.lo (by omega)]
    exact t1
  have t16 : mi (si N' 86 16 0) 86 16 = 0 := mi_si_same _ _ _ (by decide) (by decide)
  generalize si N' 86 16 0 = N at eN iN c0 tN t16
  have er := mr_e2 eN
  have r0 : ∀ c k : Nat, ¬ (c = 1 ∧ k = 4) → mr N c k = mr m c k := fun c k hc => by rw [er]; exact mr_sr_ne _ _ hc
  have f : PF m N b q := ⟨congrArg (fun q => q.2.2) eN, fun c k x1 _ _ => r0 c k x1, fun c j hc => by unfold PC at hc; exact c0 c j (by omega) (by omega) (by omega) (by omega) (by omega) (by omega), fun c j => (ml_e2 eN c j).trans rfl⟩
  have eb := f.bxe B1
  have K := (h.1.2.1.2 b hb.1 (by omega)).1
  have r4 : mr N (bx m b) 4 = mr m (bx m b) 4 := r0 _ _ (by omega)
  have ep : pg N b = pg m b := by
    unfold pg
    rw [eb, r4]
  have oth : ∀ p j : Nat, (bx m b ≤ p ∧ p < bx m b + 3) ∨ (pg m b ≤ p ∧ p ≤ pg m b + 5) → mi N p j = mi m p j := fun p j hp => c0 p j (by omega) (by omega) (by omega) (by omega) (by omega) (by omega)
  have r91 : mi N 91 b.toNat = mi m 91 b.toNat := c0 91 _ (by omega) (by omega) (by omega) (by omega) (by omega) (by omega)
  have n91 := h.i.a 91 0 12 (by decide) b.toNat
  have cdc : ∀ k : Int, 0 ≤ k → k < 170 → cdX N ((170 * b) + k) = cdX m ((170 * b) + k) := fun k x0 x1 => by
    unfold cdX
    rw [c0 98 _ (by omega) (by omega) (by omega) (by omega) (by omega) (by omega), c0 99 _ (by omega) (by omega) (by omega) (by omega) (by omega) (by omega)]
  refine h.prog hb hq f tN t16 iN (Or.inr ⟨r4.trans K.1.2.2.1, (r0 _ _ (by omega)).trans hq⟩) ?_ (fun j j0 j1 => ?_) ?_
  · exact AgB.stay h hb.1 hb.2 (eb b) ep (r0 _ _ (by omega)) r4 (f.ob (by omega) (by omega) (Or.inr (by decide))) (f.ob (by omega) (by omega) (Or.inl (by omega))) oth (fun p j p0 p1 => c0 p j (by omega) (by omega) (by omega) (by omega) (by omega) (by omega)) r91 (fun l l0 l1 p p0 p1 => c0 p _ (by omega) (by omega) (by omega) (by omega) (by omega) (by omega)) cdc
  · rw [r91] at j1
    exact (h.1.1.1.1.2.2.2 b j hb.1 (by omega) j0 j1).oth (b := b + 1) ((h.i.a 95 0 160 (by decide) _).1) ⟨hb.1, by omega⟩ ⟨j0, by omega⟩ (by omega) (fun p k hp => c0 p k (by omega) (by omega) (by omega) (by omega) (by omega) (by omega))
  · have g := h.k3 b hb.1 hb.2
    rw [ep, oth (pg m b) 5 (by omega)]
    refine ⟨g.1, fun l l0 l1 => ?_⟩
    have l1 : l < mi N 91 b.toNat := l1
    rw [r91] at l1
    show mi N 97 _ ≤ _
    rw [c0 97 _ (by omega) (by omega) (by omega) (by omega) (by omega) (by omega)]
    exact g.2 l l0 l1
theorem getD_mem {rs : List LRec} {i : Nat} (hi : i < rs.length) (d : LRec) : rs.getD i d ∈ rs := by
  rw [List.getD_eq_getElem?_getD, List.getElem?_eq_getElem hi]
  exact List.getElem_mem hi
theorem getD_d {rs : List LRec} {i : Nat} (hi : i < rs.length) (d e : LRec) : rs.getD i d = rs.getD i e := by
  rw [List.getD_eq_getElem?_getD, List.getD_eq_getElem?_getD, List.getElem?_eq_getElem hi]
  rfl
/-- a text that is right -/
theorem prog_ok {m C N' : AM} {b : Int} {q : Nat} {z : PSt × List LRec} (h : Inv m) (hb : 0 ≤ b ∧ b < mi m 0 16) (hq : mr m 0 15 = some q) (e2 : C.2 = (sr (sr (sr m 1 4 (some q)) (bx m b) 4 (some q)) 0 15 (some (pg m b))).2) (eC : ∀ o j : Nat, ¬ (q ≤ o ∧ o ≤ q + 5) → ¬ (o = 1 ∧ 1 ≤ j ∧ j ≤ 3) → mi C o j = mi m o j) (t1 : mi C 1 1 = 0) (hW : WC q C z.1.2) (hV : IV q C z.2) (h6 : mi C q 6 = z.2.length) (hz : (∀ r ∈ z.2, RecOK z.1.2 r) ∧ (1 ≤ z.2.length ∧ z.2.length ≤ 12) ∧ (z.1.2.length : Int) ≤ 160) (hG : FG C N') (hI : IM N') (hP : PS N' z.1.1 0 z.1.2) (hA : RowsAll N' z.2) (h91 : mi N' 91 6 = z.2.length) : Inv (pgM N' b) := by
  have k0 := h.k0
  have h16 := h.i.s 0 16 0 6 (by decide)
  have e11 : mi m 0 16 = mi m 86 1 := h.1.2.1.1
  have qP : isP m q ∧ ∀ c : Int, 0 ≤ c → c < mi m 0 16 → pg m c ≠ q := by
    obtain ⟨s, g6, g7, g8⟩ := k0.2.2.2.2.2
    rw [hq] at g6
    obtain rfl := Option.some.inj g6
    exact ⟨g7, g8⟩
  have qlow := qP.1.low k0
  have B1 := (k0.1 b hb.1 hb.2).1
  have qb := qP.1.bx k0 hb.1 hb.2
  obtain ⟨hz1, hz2, hz3⟩ := hz
  have w20 : mi N' 86 20 = z.1.2.length := hP.2.2.2.1
  have eN : (pgM N' b).2 = (sr (sr (sr m 1 4 (some q)) (bx m b) 4 (some q)) 0 15 (some (pg m b))).2 := hG.1.trans e2
  have iN : IM (pgM N' b) := pgM_im hI
  have c0 : ∀ o j : Nat, ¬ (q ≤ o ∧ o ≤ q + 5) → ¬ (o = 1 ∧ 1 ≤ j ∧ j ≤ 3) → ¬ (o = 86 ∧ 16 ≤ j ∧ j ≤ 20) → ¬ (o = 91 ∧ ((j : Int) = b ∨ j = 6)) → ¬ ((92 ≤ o ∧ o ≤ 97) ∧ ((12 * b ≤ (j : Int) ∧ (j : Int) < 12 * b + 12) ∨ 72 ≤ j)) → ¬ ((o = 98 ∨ o = 99) ∧ ((170 * b ≤ (j : Int) ∧ (j : Int) < 170 * b + 170) ∨ 1020 ≤ j)) → mi (pgM N' b) o j = mi m o j := fun o j x1 x2 x3 x4 x5 x6 => by
    rw [pgM_o (by omega) (by omega) (by omega) (by omega), hG.cell (by omega) (by omega) (by omega) (by omega)]
    exact eC o j x1 x2
  have cq : ∀ o j : Nat, q ≤ o → o ≤ q + 5 → mi (pgM N' b) o j = mi C o j := fun o j o0 o1 => by
    rw [pgM_o (by omega) (by omega) (by omega) (by omega), hG.cell (by omega) (by omega) (by omega) (by omega)]
  have tN : mi (pgM N' b) 1 1 = 0 := by
    rw [pgM_o (by omega) (by omega) (by omega) (by omega), hG.lo (by omega)]
    exact t1
  have t16 : mi (pgM N' b) 86 16 = 0 := pgM_16
  have n91 : mi (pgM N' b) 91 b.toNat = z.2.length := pgM_91.trans h91
  have rw0 : ∀ l : Nat, l < z.2.length → ∀ p : Nat, 92 ≤ p → p ≤ 97 → mi (pgM N' b) p ((12 * b) + l).toNat = mi N' p (72 + (l : Int)).toNat := fun l hl p p0 p1 => pgM_r hb.1 (by omega) (by omega) p0 p1
  have cd0 : ∀ i : Nat, i < z.1.2.length → cdX (pgM N' b) ((170 * b) + i) = z.1.2.getD i (0, 0) := fun i hi => by
    have w := pgM_c (N := N') hb.1 (i := i) (by omega)
    rw [← hP.2.2.2.2 i hi]
    unfold cdX
    rw [w.1, w.2]
  generalize pgM N' b = N at eN iN c0 cq tN t16 n91 rw0 cd0
  have er := mr_e2 eN
  have rN : ∀ c k : Nat, ¬ (c = 1 ∧ k = 4) → ¬ (c = bx m b ∧ k = 4) → ¬ (c = 0 ∧ k = 15) → mr N c k = mr m c k := fun c k x1 x2 x3 => by
    rw [er, mr_sr_ne _ _ x3, mr_sr_ne _ _ x2, mr_sr_ne _ _ x1]
  have rb4 : mr N (bx m b) 4 = some q := by
    rw [er, mr_sr_ne _ _ (by omega), mr_sr, if_pos ⟨rfl, rfl⟩]
  have r15 : mr N 0 15 = some (pg m b) := by
    rw [er, mr_sr, if_pos ⟨rfl, rfl⟩]
  have f : PF m N b q := ⟨congrArg (fun q => q.2.2) eN, rN, fun c j hc => by unfold PC at hc; exact c0 c j (by omega) (by omega) (by omega) (by omega) (by omega) (by omega), fun c j => (ml_e2 eN c j).trans rfl⟩
  have eb := f.bxe B1
  obtain ⟨⟨a1, a2, a3, a4⟩, ⟨b1, b2⟩, x, d, e', g5, g, i⟩ := (h.1.2.1.2 b hb.1 (by omega)).1
  have ep : pg N b = q := by
    unfold pg
    rw [eb, rb4]
    rfl
  have cb : ∀ p j : Nat, bx m b ≤ p → p < bx m b + 3 → mi N p j = mi m p j := fun p j p0 p1 => c0 p j (by omega) (by omega) (by omega) (by omega) (by omega) (by omega)
  have c3 : ∀ p j : Nat, 87 ≤ p → p ≤ 89 → mi N p j = mi m p j := fun p j p0 p1 => c0 p j (by omega) (by omega) (by omega) (by omega) (by omega) (by omega)
  -- a line's record, on both sides
  have rcd : ∀ l : Nat, l < z.2.length → ∃ r : LRec, RecOK z.1.2 r ∧ (mi N 92 ((12 * b) + l).toNat = r.1 ∧ mi N 95 ((12 * b) + l).toNat = r.2.1 ∧ mi N 96 ((12 * b) + l).toNat = r.2.2.1 ∧ mi N 93 ((12 * b) + l).toNat = r.2.2.2.1 ∧ mi N 94 ((12 * b) + l).toNat = r.2.2.2.2.1 ∧ mi N 97 ((12 * b) + l).toNat = r.2.2.2.2.2) ∧ (mi N (q + 2) l = r.2.1 ∧ mi N (q + 3) l = r.2.2.1 ∧ mi N (q + 5) l = r.2.2.2.2.1 ∧ mi N (q + 4) l = r.2.2.2.2.2) ∧ z_iand (z_ishr (mi N q 7) l) 1 = r.1 ∧ z_iand (z_ishr (mi N q 8) l) 1 = r.2.2.2.1 := fun l hl => by
    obtain ⟨v1, v2, v3⟩ := hV
    have ra := hA l hl
    have cr := v1 l hl
    have k7 := v2 l (by omega)
    have k8 := v3 l (by omega)
    rw [getD_d hl (0, 0, 0, 0, 0, 0) r0] at ra
    have hm := hz1 _ (getD_mem hl r0)
    generalize z.2.getD l r0 = r at ra cr k7 k8 hm
    obtain ⟨⟨y1, y2, y3, y4, y5⟩, y6⟩ := ra
    obtain ⟨u1, u2, u3, u4⟩ := cr
    rw [Int.toNat_natCast] at u1 u2 u3 u4
    refine ⟨r, hm, ⟨?_, ?_, ?_, ?_, ?_, ?_⟩, ⟨?_, ?_, ?_, ?_⟩, ?_, ?_⟩
    · rw [rw0 l hl 92 (by omega) (by omega)]; exact y1
    · rw [rw0 l hl 95 (by omega) (by omega)]; exact y2
    · rw [rw0 l hl 96 (by omega) (by omega)]; exact y3
    · rw [rw0 l hl 93 (by omega) (by omega)]; exact y4
    · rw [rw0 l hl 94 (by omega) (by omega)]; exact y5
    · rw [rw0 l hl 97 (by omega) (by omega)]; exact y6
    · rw [cq _ _ (by omega) (by omega)]; exact u1
    · rw [cq _ _ (by omega) (by omega)]; exact u2
    · rw [cq _ _ (by omega) (by omega)]; exact u3
    · rw [cq _ _ (by omega) (by omega)]; exact u4
    · rw [cq _ _ (by omega) (by omega), bit_of _ (show l < 32 by omega), k7]
      have := hm.1
      by_cases w : r.1 = 1
      · rw [decide_eq_true ⟨hl, w⟩, if_pos rfl, w]
      · rw [decide_eq_false (fun y => w y.2), if_neg (by decide)]; omega
    · rw [cq _ _ (by omega) (by omega), bit_of _ (show l < 32 by omega), k8]
      have := hm.2.1
      by_cases w : r.2.2.2.1 = 1
      · rw [decide_eq_true ⟨hl, w⟩, if_pos rfl, w]
      · rw [decide_eq_false (fun y => w y.2), if_neg (by decide)]; omega
  refine h.prog hb hq f tN t16 iN (Or.inl ⟨rb4, r15⟩) ?_ (fun j j0 j1 => ?_) ?_
  · unfold AgB
    rw [eb, ep]
    refine ⟨⟨(rN 3 _ (by omega) (by omega) (by omega)).trans a1, f.ob (by omega) (by omega) (Or.inr (by decide)) a2, rb4, f.ob (by omega) (by omega) (Or.inl (by omega)) (h.kz.1.2 q hq)⟩, ⟨b1, by omega⟩, ⟨?_, ?_⟩, fun j => ?_, fun j h1 h2 => ?_, fun r h1 h2 => ?_, ?_, fun l h1 h2 => ?_⟩
    · rw [cb _ _ (by omega) (by omega)]; exact x.1
    · rw [cb _ _ (by omega) (by omega)]
      refine x.2.trans ?_
      show mi m 87 _ = mi N 87 _
      rw [c3 87 _ (by omega) (by omega)]
    · rw [cb _ _ (by omega) (by omega)]; exact d j
    · rw [cb _ _ (by omega) (by omega)]
      refine (e' j h1 h2).trans ?_
      show mi m 89 _ = mi N 89 _
      rw [c3 89 _ (by omega) (by omega)]
    · have w := g5 r h1 h2
      have w2 : FX1_greatestFor N (bx m b) r = FX1_greatestFor m (bx m b) r := by
        unfold FX1_greatestFor
        rw [cb _ _ (by omega) (by omega)]
      rw [w2]
      refine w.trans ?_
      show FX12_mostOf m (mi m 88 _) = FX12_mostOf N (mi N 88 _)
      rw [c3 88 _ (by omega) (by omega)]
      rfl
    · rw [cq _ _ (by omega) (by omega), h6]
      exact n91.symm
    · have h3 : l < z.2.length := by
        have h4 : l < mi N 91 b.toNat := h2
        rw [n91] at h4
        exact h4
      obtain ⟨n, rfl⟩ := Int.eq_ofNat_of_zero_le h1
      obtain ⟨r, hm, ⟨y1, y2, y3, y4, y5, y6⟩, ⟨u1, u2, u3, u4⟩, k7, k8⟩ := rcd n (by omega)
      have wf := (hm.wf (code := cdX N) (k := 170 * b) cd0).1
      unfold AgL
      rw [Int.toNat_natCast]
      refine ⟨k7.trans y1.symm, k8.trans ?_, ⟨u1.trans y2.symm, u2.trans y3.symm, u4.trans y6.symm⟩, u3.trans y5.symm, fun j h4 h5 => ?_⟩
      · show _ = if 0 ≤ b then (if mi N 93 ((12 * b) + (n : Int)).toNat ≠ 0 then 1 else 0) else 0
        rw [if_pos hb.1, y4]
        have := hm.2.1
        by_cases w : r.2.2.2.1 = 0
        · rw [if_neg (fun q => q w), w]
        · rw [if_pos w]; omega
      · have h4 : mi N 95 ((12 * b) + (n : Int)).toNat ≤ j := h4
        have h5 : j < mi N 97 ((12 * b) + (n : Int)).toNat := h5
        rw [y2] at h4
        rw [y6] at h5
        obtain ⟨o, rfl⟩ := Int.eq_ofNat_of_zero_le (show 0 ≤ j by omega)
        show mi N (q + 1) ((o : Int)).toNat = wdC (cdX N ((170 * b) + (o : Int)))
        rw [cd0 o (by omega), Int.toNat_natCast, cq _ _ (by omega) (by omega)]
        exact hW.2 o (by omega)
  · rw [n91] at j1
    obtain ⟨n, rfl⟩ := Int.eq_ofNat_of_zero_le j0
    obtain ⟨r, hm, ⟨y1, y2, y3, y4, y5, y6⟩, -, -, -⟩ := rcd n (by omega)
    obtain ⟨w1, w2, w3⟩ := hm.wf (code := cdX N) (k := 170 * b) cd0
    have hg := hm.2.2.1
    unfold LK
    rw [y2, y3, y5, y6]
    refine ⟨⟨by omega, by omega, by omega⟩, w2, w3, fun q => ⟨by omega, ?_⟩⟩
    rw [c3 88 _ (by omega) (by omega)]
    exact h.1.1.1.2.1 b r.2.2.2.2.1 hb.1 (by omega) (by omega) (by omega)
  · rw [ep, cq _ _ (by omega) (by omega), hW.1]
    refine ⟨⟨by omega, hz3⟩, fun l l0 l1 => ?_⟩
    have l1 : l < mi N 91 b.toNat := l1
    rw [n91] at l1
    obtain ⟨n, rfl⟩ := Int.eq_ofNat_of_zero_le l0
    obtain ⟨r, hm, ⟨y1, y2, y3, y4, y5, y6⟩, -, -, -⟩ := rcd n (by omega)
    have wf := (hm.wf (code := cdX N) (k := 170 * b) cd0).1
    show mi N 97 ((12 * b) + (n : Int)).toNat ≤ _
    rw [y6]
    exact wf.2.2.2
theorem ag_program {G : QW} {m : AM} {b : Int} (h : Inv m) (hb1 : -2147483648 ≤ b) (hb2 : b < 2147483648) : AG G mX11_program mX12_program 54 45 0 0 [vI b] m := by
  have k0 := h.k0
  have h16 := h.i.s 0 16 0 6 (by decide)
  have e11 : mi m 0 16 = mi m 86 1 := h.1.2.1.1
  have l11 := h.i.s 1 1 0 160 (by decide)
  obtain ⟨q, hq, g7, g8⟩ := k0.2.2.2.2.2
  have qlow := isP.low k0 (p := q) g7
  have hO := h.kz.1.2 q hq
  refine (ct_X11_program h.s h.i h.1.hx hq hO (by omega) ⟨l11, fun j => h.i.a 2 0 255 (by decide) j⟩ hb1 hb2).mono (fun r C p => ?_)
  by_cases c : 0 ≤ b ∧ b < mi m 0 16
  · have e : prC m b = some (prX (chC m) false (mi m 1 1)) := if_pos c
    rw [e] at p
    have B1 := (k0.1 b c.1 c.2).1
    cases hR : prX (chC m) false (mi m 1 1) with
    | error x =>
      have p : PGC q m b (prX (chC m) false (mi m 1 1)) r C := p
      rw [hR] at p
      obtain ⟨e1, N, N2, hB, hF, h13, hC⟩ := p
      obtain ⟨c2, cc⟩ := cls_prog hB hF
      have C2 : C.2 = (sr m 1 4 (some q)).2 := by rw [hC]; exact c2
      have eC : ∀ o j : Nat, ¬ (q ≤ o ∧ o ≤ q + 5) → ¬ (o = 1 ∧ 1 ≤ j ∧ j ≤ 3) → mi C o j = mi m o j := fun o j x1 x2 => by rw [hC, mi_si_ne _ _ (by omega)]; exact cc o j x1 (by omega)
      have t1 : mi C 1 1 = 0 := by rw [hC]; exact mi_si_same _ _ _ (by decide) (by decide)
      have t3 : mi C 1 3 = 0 ∨ mi C 1 3 = 1 := by rw [hC, mi_si_ne _ _ (by omega)]; exact h13
      have sC : St C := (h.s.into (some q)).sub (by rw [C2])
      have iC : IM C := cls_im h.i qlow eC t1 t3
      refine ⟨_, e1, rfl, sC, (ct_X12_program sC iC hb1 hb2).mono (fun r2 m2 p2 => ?_)⟩
      have e' : proR C b = some (.error x) := by
        unfold proR
        rw [eC 86 1 (by omega) (by omega), if_pos (by omega), tape_same h (eC _ _ (by omega) (by omega)) (fun j => eC _ _ (by omega) (by omega)), hR]
      rw [e'] at p2
      obtain ⟨u1, N', hG, hI, u2⟩ := p2
      exact ⟨u1, by rw [u2]; exact prog_err h c hq C2 eC t1 hG hI⟩
    | ok z =>
      have p : PGC q m b (prX (chC m) false (mi m 1 1)) r C := p
      rw [hR] at p
      obtain ⟨e1, N, N2, hB, hF, hW, hV, h6, h13, hC⟩ := p
      obtain ⟨c2, cc⟩ := cls_prog hB hF
      have C2 : C.2 = (sr (sr (sr m 1 4 (some q)) (bx m b) 4 (some q)) 0 15 (some (pg m b))).2 := by
        rw [hC]
        have e3 : (si N2 1 1 0).2 = (sr m 1 4 (some q)).2 := c2
        exact sr_eq (sr_eq e3)
      have mC : ∀ o j, mi C o j = mi (si N2 1 1 0) o j := fun o j => by rw [hC]; rfl
      have eC : ∀ o j : Nat, ¬ (q ≤ o ∧ o ≤ q + 5) → ¬ (o = 1 ∧ 1 ≤ j ∧ j ≤ 3) → mi C o j = mi m o j := fun o j x1 x2 => by rw [mC, mi_si_ne _ _ (by omega)]; exact cc o j x1 (by omega)
      have t1 : mi C 1 1 = 0 := by rw [mC]; exact mi_si_same _ _ _ (by decide) (by decide)
      have t3 : mi C 1 3 = 0 ∨ mi C 1 3 = 1 := by rw [mC, mi_si_ne _ _ (by omega)]; exact h13
      have iC : IM C := cls_im h.i qlow eC t1 t3
      have er := mr_e2 C2
      have fC : PF m C b q := ⟨congrArg (fun q => q.2.2) C2, fun o k x1 x2 x3 => by rw [er, mr_sr_ne _ _ x3, mr_sr_ne _ _ x2, mr_sr_ne _ _ x1], fun o j hc => by unfold PC at hc; exact eC o j (by omega) (by omega), fun o j => (ml_e2 C2 o j).trans rfl⟩
      have sC : St C := fC.st B1 h.s
      refine ⟨_, e1, rfl, sC, (ct_X12_program sC iC hb1 hb2).mono (fun r2 m2 p2 => ?_)⟩
      have e' : proR C b = some (.ok z) := by
        unfold proR
        rw [eC 86 1 (by omega) (by omega), if_pos (by omega), tape_same h (eC _ _ (by omega) (by omega)) (fun j => eC _ _ (by omega) (by omega)), hR]
      rw [e'] at p2
      obtain ⟨u1, N', hG, hI, hP, hA, h91, u2⟩ := p2
      have hz := prX_ok (chC_end (m := m)) l11.1 false hR
      have q1 : ∀ o j : Nat, q ≤ o → mi C o j = mi N2 o j := fun o j ho => by rw [mC, mi_si_ne _ _ (by omega)]
      have hW' : WC q C z.1.2 := ⟨by rw [q1 _ _ (Nat.le_refl _)]; exact hW.1, fun i hi => by rw [q1 _ _ (by omega)]; exact hW.2 i hi⟩
      have hV' : IV q C z.2 := hV.of (fun d i a b => q1 _ _ (by omega)) (q1 _ _ (Nat.le_refl _)) (q1 _ _ (Nat.le_refl _))
      exact ⟨u1, by rw [u2]; exact prog_ok h c hq C2 eC t1 hW' hV' (by rw [q1 _ _ (Nat.le_refl _)]; exact h6) ⟨hz.1, hz.2.1, by omega⟩ hG hI hP hA h91⟩
  · have e : prC m b = none := if_neg c
    rw [e] at p
    obtain ⟨e1, e2⟩ := p
    rw [e2]
    refine ⟨_, e1, rfl, h.s, (ct_X12_program h.s h.i hb1 hb2).mono (fun r2 m2 p2 => ?_)⟩
    have e' : proR m b = none := if_neg (by rw [← e11]; exact c)
    rw [e'] at p2
    obtain ⟨u1, u2⟩ := p2
    exact ⟨u1, by rw [u2]; exact h⟩

/-! a program is put into a box, on both sides: what holds between calls holds again -/
/-- cells that may hold a program -/
def isP (m : AM) (p : Nat) : Prop := p = 62 ∨ ∃ d : Int, 0 ≤ d ∧ d < mi m 0 16 ∧ p = bx m d + 3
theorem isP.pp {m : AM} (k : K0 m) {p r : Nat} (h1 : isP m p) (h2 : isP m r) (hn : p ≠ r) : p + 6 ≤ r ∨ r + 6 ≤ p := by
  rcases h1 with e1 | ⟨d, d0, d1, e1⟩ <;> rcases h2 with e2 | ⟨e, e0, e1', e2⟩
  · omega
  · have := (k.1 e e0 e1').1; omega
  · have := (k.1 d d0 d1).1; omega
  · by_cases z : d = e
    · rw [z] at e1; omega
    · have := (k.2.1 d e d0 d1 e0 e1' z).1
      omega
theorem isP.bx {m : AM} (k : K0 m) {p : Nat} (h1 : isP m p) {c : Int} (c0 : 0 ≤ c) (c1 : c < mi m 0 16) : p + 6 ≤ bx m c ∨ bx m c + 3 ≤ p := by
  have C := (k.1 c c0 c1).1
  rcases h1 with e1 | ⟨d, d0, d1, e1⟩
  · omega
  · by_cases z : d = c
    · rw [z] at e1; omega
    · have := (k.2.1 d c d0 d1 c0 c1 z).1
      omega
theorem isP.fl {m : AM} (k : K0 m) {p : Nat} (h1 : isP m p) {f : Int} (f0 : 0 ≤ f) (f1 : f < mi m 0 17) : p + 6 ≤ fl m f ∨ fl m f + 9 ≤ p := by
  have C := (k.2.2.1 f f0 f1).1
  rcases h1 with e1 | ⟨d, d0, d1, e1⟩
  · omega
  · have := k.2.2.2.2.1 d f d0 d1 f0 f1
    omega
theorem isP.low {m : AM} (k : K0 m) {p : Nat} (h1 : isP m p) : p = 62 ∨ 148 ≤ p := by
  rcases h1 with e1 | ⟨d, d0, d1, e1⟩
  · exact Or.inl e1
  · have := (k.1 d d0 d1).1; omega
def PC (b : Int) (q c j : Nat) : Prop := (q ≤ c ∧ c ≤ q + 5) ∨ (c = 1 ∧ 1 ≤ j ∧ j ≤ 3) ∨ (c = 86 ∧ 16 ≤ j ∧ j ≤ 20) ∨ (c = 91 ∧ ((j : Int) = b ∨ j = 6)) ∨ ((92 ≤ c ∧ c ≤ 97) ∧ ((12 * b ≤ (j : Int) ∧ (j : Int) < 12 * b + 12) ∨ 72 ≤ j)) ∨ ((c = 98 ∨ c = 99) ∧ ((170 * b ≤ (j : Int) ∧ (j : Int) < 170 * b + 170) ∨ 1020 ≤ j))
def PF (m N : AM) (b : Int) (q : Nat) : Prop := N.2.2.2 = m.2.2.2 ∧ (∀ c k : Nat, ¬ (c = 1 ∧ k = 4) → ¬ (c = bx m b ∧ k = 4) → ¬ (c = 0 ∧ k = 15) → mr N c k = mr m c k) ∧ (∀ c j : Nat, ¬ PC b q c j → mi N c j = mi m c j) ∧ ∀ c j : Nat, ml N c j = ml m c j
theorem PF.zz {m N : AM} {b : Int} {q : Nat} (h : PF m N b q) : mz N = mz m := congrArg (fun q => q.2.2) h.1
theorem PF.kk {m N : AM} {b : Int} {q : Nat} (h : PF m N b q) : mk N = mk m := congrArg (fun q => q.1) h.1
theorem PF.nn {m N : AM} {b : Int} {q : Nat} (h : PF m N b q) : mn N = mn m := congrArg (fun q => q.2.1) h.1
theorem PF.st {m N : AM} {b : Int} {q : Nat} (h : PF m N b q) (hb : 145 ≤ bx m b) (hS : St m) : St N := by
  refine ⟨by rw [h.zz]; exact hS.1, fun n hn => by rw [h.kk, h.nn]; exact hS.2.1 n hn, fun r hr => ?_⟩
  have k := (by decide +kernel : ∀ r ∈ rL, r.1 < 145 ∧ ¬ (r.1 = 1 ∧ r.2.1 = 4) ∧ ¬ (r.1 = 0 ∧ r.2.1 = 15)) r hr
  exact (h.2.1 r.1 r.2.1 k.2.1 (by omega) k.2.2).trans (hS.2.2 r hr)
theorem PF.ob {m N : AM} {b : Int} {q : Nat} (h : PF m N b q) {a c : Nat} {fs : List (Nat × Nat × Nat × Nat)} (h0 : a ≠ 0) (h1 : a ≠ 1) (h2 : a ≠ bx m b ∨ ∀ r ∈ fs, r.1 ≠ 4) (hO : ObA m a c fs) : ObA N a c fs := by
  refine ⟨by rw [h.zz]; exact hO.1, by rw [h.kk]; exact hO.2.1, fun r hr => ?_⟩
  rw [h.2.1 a r.1 (by omega) (fun z => h2.elim (fun w => w z.1) (fun w => w r hr z.2)) (by omega), h.zz, h.kk, h.nn]
  exact hO.2.2 r hr
theorem PF.bxe {m N : AM} {b : Int} {q : Nat} (h : PF m N b q) (hb : 145 ≤ bx m b) (c : Int) : bx N c = bx m c := by
  unfold bx at *
  rw [h.2.1 3 _ (by omega) (fun z => by unfold bx at z; omega) (by omega)]
theorem PF.fle {m N : AM} {b : Int} {q : Nat} (h : PF m N b q) (hb : 145 ≤ bx m b) (c : Int) : fl N c = fl m c := by
  unfold fl
  rw [h.2.1 4 _ (by omega) (by omega) (by omega)]
theorem PF.flg {m N : AM} {b : Int} {q : Nat} (h : PF m N b q) {a : Nat} (ha : a = 48 ∨ 145 ≤ a) (hb : a ≠ bx m b) (hq : q + 6 ≤ a ∨ a + 9 ≤ q) (f : FLG m a) : FLG N a := by
  obtain ⟨a1, a2, a3, a4, a5, a6, a7, a8⟩ := f
  have e : ∀ r j : Nat, r < 9 → mi N (a + r) j = mi m (a + r) j := fun r j hr => h.2.2.1 _ j (by unfold PC; omega)
  refine ⟨h.ob (by omega) (by omega) (Or.inl hb) a1, a2, fun k hk => ?_, fun j => ?_, fun j => ?_, fun j => ?_, fun j => ?_, fun k hk j => ?_⟩
  · rw [h.2.1 (a + 5) k (by omega) (by omega) (by omega), h.zz, h.kk, h.nn]
    exact a3 k hk
  · rw [e _ _ (by omega)]; exact a4 j
  · rw [e _ _ (by omega)]; exact a5 j
  · rw [e _ _ (by omega)]; exact a6 j
  · rw [e _ _ (by omega)]; exact a7 j
  · rw [Nat.add_assoc, e _ _ (by omega), ← Nat.add_assoc]; exact a8 k hk j
/-- another box's line, in the reference's rows -/
theorem LK.oth {m N : AM} {b c j : Int} (lk : LK m c ((12 * c) + j)) (i95 : 0 ≤ mi m 95 ((12 * c) + j).toNat) (hc : 0 ≤ c ∧ c < 6) (hj : 0 ≤ j ∧ j < 12) (hbc : c ≠ b) (e : ∀ p k : Nat, p = 88 ∨ (94 ≤ p ∧ p ≤ 97 ∧ ¬ (12 * b ≤ (k : Int) ∧ (k : Int) < 12 * b + 12) ∧ k < 72) ∨ ((p = 98 ∨ p = 99) ∧ ¬ (170 * b ≤ (k : Int) ∧ (k : Int) < 170 * b + 170) ∧ k < 1020) → mi N p k = mi m p k) : LK N c ((12 * c) + j) := by
  have r : ∀ p : Nat, 94 ≤ p → p ≤ 97 → mi N p ((12 * c) + j).toNat = mi m p ((12 * c) + j).toNat := fun p p0 p1 => e p _ (Or.inr (Or.inl ⟨p0, p1, by omega, by omega⟩))
  have cd : ∀ k : Int, 0 ≤ k → k < 170 → cdX N ((170 * c) + k) = cdX m ((170 * c) + k) := fun k k0 k1 => by
    unfold cdX
    rw [e 98 _ (Or.inr (Or.inr ⟨Or.inl rfl, by omega, by omega⟩)), e 99 _ (Or.inr (Or.inr ⟨Or.inr rfl, by omega, by omega⟩))]
  unfold LK at lk ⊢
  rw [r 94 (by omega) (by omega), r 95 (by omega) (by omega), r 96 (by omega) (by omega), r 97 (by omega) (by omega)]
  obtain ⟨l1, l2, l3, l4⟩ := lk
  refine ⟨l1, fun z => ?_, ?_, fun z => ?_⟩
  · have q := sWF_cg2 (cd' := cdX N) (d := 0) _ _ _ (fun y y0 y1 => ?_) (l2 z)
    · rw [Int.add_zero] at q
      exact q
    · rw [Int.add_zero]
      have := cd (y - 170 * c) (by omega) (by omega)
      rw [show (170 * c) + (y - 170 * c) = y by omega] at this
      exact this
  · have q := sWF_cg2 (cd' := cdX N) (d := 0) _ _ _ (fun y y0 y1 => ?_) l3
    · rw [Int.add_zero] at q
      exact q
    · rw [Int.add_zero]
      have := cd (y - 170 * c) (by omega) (by omega)
      rw [show (170 * c) + (y - 170 * c) = y by omega] at this
      exact this
  · have w := l4 z
    rw [e 88 _ (Or.inl rfl)]
    exact w
/-- a box whose cells and rows stay -/
theorem AgB.stay {m N : AM} {c : Int} (h : Inv m) (c0 : 0 ≤ c) (cn : c < mi m 0 16) (eb : bx N c = bx m c) (ep : pg N c = pg m c) (r3 : mr N 3 c.toNat = mr m 3 c.toNat) (r4 : mr N (bx m c) 4 = mr m (bx m c) 4) (o1 : ObA m (bx m c) 1 fsBox → ObA N (bx m c) 1 fsBox) (o2 : ObA m (pg m c) 5 fsProg → ObA N (pg m c) 5 fsProg) (oth : ∀ p j : Nat, (bx m c ≤ p ∧ p < bx m c + 3) ∨ (pg m c ≤ p ∧ p ≤ pg m c + 5) → mi N p j = mi m p j) (e3 : ∀ p j : Nat, 87 ≤ p → p ≤ 89 → mi N p j = mi m p j) (r91 : mi N 91 c.toNat = mi m 91 c.toNat) (rr : ∀ l : Int, 0 ≤ l → l < 12 → ∀ p : Nat, 92 ≤ p → p ≤ 97 → mi N p ((12 * c) + l).toNat = mi m p ((12 * c) + l).toNat) (cdc : ∀ k : Int, 0 ≤ k → k < 170 → cdX N ((170 * c) + k) = cdX m ((170 * c) + k)) : AgB N (wN N) c := by
  have e11 : mi m 0 16 = mi m 86 1 := h.1.2.1.1
  obtain ⟨⟨a1, a2, a3, a4⟩, ⟨b1, b2⟩, x, d, e', g5, g, i⟩ := (h.1.2.1.2 c c0 (by omega)).1
  have nb := h.i.a 91 0 12 (by decide) c.toNat
  unfold AgB
  rw [eb, ep]
  refine ⟨⟨r3.trans a1, o1 a2, r4.trans a3, o2 a4⟩, ⟨b1, b2⟩, ⟨?_, ?_⟩, fun j => ?_, fun j h1 h2 => ?_, fun r h1 h2 => ?_, ?_, fun l h1 h2 => ?_⟩
  · rw [oth _ _ (by omega)]; exact x.1
  · rw [oth _ _ (by omega)]
    refine x.2.trans ?_
    show mi m 87 _ = mi N 87 _
    rw [e3 87 _ (by omega) (by omega)]
  · rw [oth _ _ (by omega)]; exact d j
  · rw [oth _ _ (by omega)]
    refine (e' j h1 h2).trans ?_
    show mi m 89 _ = mi N 89 _
    rw [e3 89 _ (by omega) (by omega)]
  · have w := g5 r h1 h2
    have w2 : FX1_greatestFor N (bx m c) r = FX1_greatestFor m (bx m c) r := by
      unfold FX1_greatestFor
      rw [oth _ _ (by omega)]
    rw [w2]
    refine w.trans ?_
    show FX12_mostOf m (mi m 88 _) = FX12_mostOf N (mi N 88 _)
    rw [e3 88 _ (by omega) (by omega)]
    rfl
  · rw [oth _ _ (by omega)]
    refine g.trans ?_
    show mi m 91 _ = mi N 91 _
    rw [r91]
  · have h3 : l < mi m 91 c.toNat := by
      have h4 : l < mi N 91 c.toNat := h2
      rw [r91] at h4
      exact h4
    have w := i l h1 h3
    have lkm := h.1.1.1.1.2.2.2 c l c0 (by omega) h1 h3
    have l95 := (h.i.a 95 0 160 (by decide) ((12 * c) + l).toNat).1
    unfold AgL at w ⊢
    rw [oth (pg m c) 7 (by omega), oth (pg m c) 8 (by omega), oth (pg m c + 2) _ (by omega), oth (pg m c + 3) _ (by omega), oth (pg m c + 4) _ (by omega), oth (pg m c + 5) _ (by omega)]
    have t3 : (wN N).at3 c l = (wN m).at3 c l := by
      show (mi N 95 _, mi N 96 _, mi N 97 _) = (mi m 95 _, mi m 96 _, mi m 97 _)
      rw [rr l h1 (by omega) 95 (by omega) (by omega), rr l h1 (by omega) 96 (by omega) (by omega), rr l h1 (by omega) 97 (by omega) (by omega)]
    rw [t3]
    refine ⟨w.1.trans ?_, w.2.1.trans ?_, w.2.2.1, w.2.2.2.1.trans ?_, fun j h4 h5 => ?_⟩
    · show mi m 92 _ = mi N 92 _
      rw [rr l h1 (by omega) 92 (by omega) (by omega)]
    · show (if 0 ≤ c then (if mi m 93 ((12 * c) + l).toNat ≠ 0 then 1 else 0) else 0 : Int) = if 0 ≤ c then (if mi N 93 ((12 * c) + l).toNat ≠ 0 then 1 else 0) else 0
      rw [rr l h1 (by omega) 93 (by omega) (by omega)]
    · show mi m 94 _ = mi N 94 _
      rw [rr l h1 (by omega) 94 (by omega) (by omega)]
    · have h4' : mi m 95 ((12 * c) + l).toNat ≤ j := h4
      have h5' : j < mi m 97 ((12 * c) + l).toNat := h5
      have lk3 := lkm.1
      rw [oth (pg m c + 1) _ (by omega)]
      refine (w.2.2.2.2 j h4 h5).trans ?_
      show wdC (cdX m _) = wdC (cdX N _)
      rw [cdc j (by omega) (by omega)]
theorem Inv.prog {m N : AM} {b : Int} {q : Nat} (h : Inv m) (hb : 0 ≤ b ∧ b < mi m 0 16) (hq : mr m 0 15 = some q) (f : PF m N b q) (t1 : mi N 1 1 = 0) (t16 : mi N 86 16 = 0) (iN : IM N) (hsw : (mr N (bx m b) 4 = some q ∧ mr N 0 15 = some (pg m b)) ∨ (mr N (bx m b) 4 = some (pg m b) ∧ mr N 0 15 = some q)) (ag : AgB N (wN N) b) (lk : ∀ j, 0 ≤ j → j < mi N 91 b.toNat → LK N b ((12 * b) + j)) (k3 : (0 ≤ mi N (pg N b) 5 ∧ mi N (pg N b) 5 ≤ 160) ∧ ∀ l, 0 ≤ l → l < (wN N).nl b → ((wN N).at3 b l).2.2 ≤ mi N (pg N b) 5) : Inv N := by
  have k0 := h.k0
  have h16 := h.i.s 0 16 0 6 (by decide)
  have e11 : mi m 0 16 = mi m 86 1 := h.1.2.1.1
  have e17' : mi m 0 17 = mi m 86 21 := h.1.2.2.1.1
  have pP : ∀ c : Int, 0 ≤ c → c < mi m 0 16 → isP m (pg m c) := fun c c0 c1 => (k0.1 c c0 c1).2.2
  have qP : isP m q ∧ ∀ c : Int, 0 ≤ c → c < mi m 0 16 → pg m c ≠ q := by
    obtain ⟨s, g6, g7, g8⟩ := k0.2.2.2.2.2
    rw [hq] at g6
    obtain rfl := Option.some.inj g6
    exact ⟨g7, g8⟩
  have qlow := qP.1.low k0
  have B1 := (k0.1 b hb.1 hb.2).1
  have hS := h.s
  have hSN : St N := f.st B1 hS
  have eb := f.bxe B1
  have efl := f.fle B1
  have cl : ∀ c j : Nat, c < 145 → ¬ (62 ≤ c ∧ c ≤ 67) → ¬ (c = 1 ∧ 1 ≤ j ∧ j ≤ 3) → ¬ (c = 86 ∧ 16 ≤ j ∧ j ≤ 20) → ¬ (91 ≤ c ∧ c ≤ 99) → mi N c j = mi m c j := fun c j a1 a2 a3 a4 a5 => f.2.2.1 c j (by unfold PC; omega)
  have c16 : mi N 0 16 = mi m 0 16 := cl 0 16 (by omega) (by omega) (by omega) (by omega) (by omega)
  have c17 : mi N 0 17 = mi m 0 17 := cl 0 17 (by omega) (by omega) (by omega) (by omega) (by omega)
  have c1 : mi N 86 1 = mi m 86 1 := cl 86 1 (by omega) (by omega) (by omega) (by omega) (by omega)
  have c21 : mi N 86 21 = mi m 86 21 := cl 86 21 (by omega) (by omega) (by omega) (by omega) (by omega)
  have ep : ∀ c : Int, 0 ≤ c → c < mi m 0 16 → c ≠ b → pg N c = pg m c := fun c c0 c1 cb => by
    have s := (k0.2.1 c b c0 c1 hb.1 hb.2 cb).1
    have C := (k0.1 c c0 c1).1
    unfold pg
    rw [eb, f.2.1 (bx m c) 4 (by omega) (by omega) (by omega)]
  have oth : ∀ c : Int, 0 ≤ c → c < mi m 0 16 → ∀ p j : Nat, (bx m c ≤ p ∧ p < bx m c + 3) ∨ (pg m c ≤ p ∧ p ≤ pg m c + 5) → mi N p j = mi m p j := fun c c0 c1 p j hp => by
    have C := (k0.1 c c0 c1).1
    have s1 := qP.1.bx k0 c0 c1
    have s2 := qP.1.pp k0 (pP c c0 c1) (Ne.symm (qP.2 c c0 c1))
    have s3 := (pP c c0 c1).low k0
    exact f.2.2.1 p j (by unfold PC; omega)
  have rr : ∀ c l : Int, 0 ≤ c → c < 6 → c ≠ b → 0 ≤ l → l < 12 → ∀ p : Nat, 92 ≤ p → p ≤ 97 → mi N p ((12 * c) + l).toNat = mi m p ((12 * c) + l).toNat := fun c l c0 c1 cb l0 l1 p p0 p1 => f.2.2.1 p _ (by unfold PC; omega)
  have r91 : ∀ c : Int, 0 ≤ c → c < 6 → c ≠ b → mi N 91 c.toNat = mi m 91 c.toNat := fun c c0 c1 cb => f.2.2.1 91 _ (by unfold PC; omega)
  have n91 : ∀ c : Int, 0 ≤ mi m 91 c.toNat ∧ mi m 91 c.toNat ≤ 12 := fun c => h.i.a 91 0 12 (by decide) c.toNat
  have LKm : ∀ c j : Int, 0 ≤ c → c < mi m 86 1 → 0 ≤ j → j < mi m 91 c.toNat → LK m c ((12 * c) + j) := h.1.1.1.1.2.2.2
  have i95 : ∀ j : Nat, 0 ≤ mi m 95 j := fun j => (h.i.a 95 0 160 (by decide) j).1
  have cdc : ∀ c k : Int, 0 ≤ c → c < 6 → c ≠ b → 0 ≤ k → k < 170 → cdX N ((170 * c) + k) = cdX m ((170 * c) + k) := fun c k c0 c1 cb k0 k1 => by
    unfold cdX
    rw [f.2.2.1 98 _ (by unfold PC; omega), f.2.2.1 99 _ (by unfold PC; omega)]
  have agO : ∀ c : Int, 0 ≤ c → c < mi m 0 16 → c ≠ b → AgB N (wN N) c := fun c c0 cn cb => by
    have s := (k0.2.1 c b c0 cn hb.1 hb.2 cb).1
    have C := (k0.1 c c0 cn).1
    have low := (pP c c0 cn).low k0
    have pb := (pP c c0 cn).bx k0 hb.1 hb.2
    exact AgB.stay h c0 cn (eb c) (ep c c0 cn cb) (f.2.1 3 _ (by omega) (by omega) (by omega)) (f.2.1 (bx m c) 4 (by omega) (by omega) (by omega)) (f.ob (by omega) (by omega) (Or.inl (by omega))) (f.ob (by omega) (by omega) (Or.inl (by omega))) (oth c c0 cn) (fun p j p0 p1 => cl p j (by omega) (by omega) (by omega) (by omega) (by omega)) (r91 c c0 (by omega) cb) (fun l l0 l1 p p0 p1 => rr c l c0 (by omega) cb l0 l1 p p0 p1) (fun k k0 k1 => cdc c k c0 (by omega) cb k0 k1)
  have k1 : K1 N := by
    refine ⟨by rw [c16, c1]; exact e11, fun c c0 cn => ?_⟩
    rw [c1] at cn
    have C := (k0.1 c c0 (by omega)).1
    have t5 : mi N (bx N c) 5 = mi N 90 c.toNat := by
      rw [eb, oth c c0 (by omega) _ _ (by omega), cl 90 _ (by omega) (by omega) (by omega) (by omega) (by omega)]
      exact (h.1.2.1.2 c c0 cn).2
    by_cases cb : c = b
    · rw [cb] at t5 ⊢; exact ⟨ag, t5⟩
    · exact ⟨agO c c0 (by omega) cb, t5⟩
  have k2 : K2 N := by
    refine ⟨by rw [c17, c21]; exact e17', fun g g0 g1 => ?_⟩
    rw [c21] at g1
    have gg : g < mi m 0 17 := by omega
    obtain ⟨q1, q2, q3⟩ := h.1.flt g0 gg
    have s := k0.2.2.2.2.1 b g hb.1 hb.2 g0 gg
    have G1 := (k0.2.2.1 g g0 gg).1
    have sq := qP.1.fl k0 g0 gg
    have ec : ∀ c j : Nat, fl m g ≤ c → c < fl m g + 9 → mi N c j = mi m c j := fun c j x y => f.2.2.1 c j (by unfold PC; omega)
    unfold AgF
    rw [efl]
    refine ⟨⟨(f.2.1 4 _ (by omega) (by omega) (by omega)).trans q1.1, q1.2⟩, f.flg (Or.inr G1) (by omega) sq q2, fun x hx => ?_⟩
    obtain ⟨t1, t2, t3, t4, t5⟩ := q3 x hx
    rw [ec (fl m g + 1) _ (by omega) (by omega), ec (fl m g + 2) _ (by omega) (by omega), ec (fl m g + 3) _ (by omega) (by omega), ec (fl m g + 4) _ (by omega) (by omega), cl 101 _ (by omega) (by omega) (by omega) (by omega) (by omega), cl 102 _ (by omega) (by omega) (by omega) (by omega) (by omega), cl 103 _ (by omega) (by omega) (by omega) (by omega) (by omega), cl 104 _ (by omega) (by omega) (by omega) (by omega) (by omega)]
    refine ⟨t1, t2, t3, t4, fun j hj => ?_⟩
    rw [ec (fl m g + 6 + x) _ (by omega) (by omega), cl 105 _ (by omega) (by omega) (by omega) (by omega) (by omega)]
    exact t5 j hj
  have lkN : ∀ c j : Int, 0 ≤ c → c < mi N 86 1 → 0 ≤ j → j < mi N 91 c.toNat → LK N c ((12 * c) + j) := fun c j c0 cn j0 jn => by
    by_cases cb : c = b
    · rw [cb] at jn ⊢; exact lk j j0 jn
    · rw [c1] at cn
      rw [r91 c c0 (by omega) cb] at jn
      have nb := n91 c
      exact (LKm c j c0 cn j0 jn).oth (i95 _) ⟨c0, by omega⟩ ⟨j0, by omega⟩ cb (fun p k hp => f.2.2.1 p k (by unfold PC; omega))
  have ri : RI N := by
    obtain ⟨⟨⟨a, b', c, d, e, g, i, w, w9⟩, r, t⟩, ⟨u, v, x⟩, y, z⟩ := h.1.1.1.1
    have hi : ∀ o j : Nat, (106 ≤ o ∧ o ≤ 114) ∨ o = 89 → mi N o j = mi m o j := fun o j ho => cl o j (by omega) (by omega) (by omega) (by omega) (by omega)
    have hk : ∀ k : Nat, 35 ≤ k → mi N 86 k = mi m 86 k := fun k hk => cl 86 k (by omega) (by omega) (by omega) (by omega) (by omega)
    refine ⟨⟨⟨hSN, iN, fun j => ?_, fun j => ?_, fun j => ?_, fun j => ?_, ?_, ?_, fun j => ?_⟩, fun j => ?_, fun j => ?_⟩, ⟨fun j => ?_, fun j => ?_, fun k k1 k2 => ?_⟩, ?_, lkN⟩
    · rw [hi 110 j (by omega)]; exact c j
    · rw [hi 106 j (by omega)]; exact d j
    · rw [hi 109 j (by omega)]; exact e j
    · rw [hi 114 j (by omega)]; exact g j
    · rw [hk 39 (by omega)]; exact i
    · rw [hk 40 (by omega)]; exact w
    · rw [hi 89 j (by omega)]; exact w9 j
    · rw [hi 107 j (by omega)]; exact r j
    · rw [hi 108 j (by omega)]; exact t j
    · rw [hi 111 j (by omega)]; exact u j
    · rw [hi 112 j (by omega)]; exact v j
    · rw [hk k (by omega)]; exact x k k1 k2
    · rw [hk 45 (by omega)]; exact y
  have ra : RA N := by
    obtain ⟨⟨-, r2, r3⟩, r4⟩ := h.1.1
    refine ⟨⟨ri, fun x s q0 q1 q2 q3 => ?_, fun j => ?_⟩, fun p => ?_⟩
    · rw [c1] at q1
      rw [cl 88 _ (by omega) (by omega) (by omega) (by omega) (by omega)]
      exact r2 x s q0 q1 q2 q3
    · rw [cl 123 _ (by omega) (by omega) (by omega) (by omega) (by omega), cl 124 _ (by omega) (by omega) (by omega) (by omega) (by omega)]
      exact r3 j
    · rw [cl 86 70 (by omega) (by omega) (by omega) (by omega) (by omega), c1, c21, cl 133 _ (by omega) (by omega) (by omega) (by omega) (by omega), cl 134 _ (by omega) (by omega) (by omega) (by omega) (by omega), cl 135 _ (by omega) (by omega) (by omega) (by omega) (by omega), cl 136 _ (by omega) (by omega) (by omega) (by omega) (by omega), cl 136 _ (by omega) (by omega) (by omega) (by omega) (by omega)]
      exact r4 p
  have r : ∀ o, sto o → RC m o → RC N o := fun o ho hr => hr.same (fun r j hr => cl _ _ (by unfold sto at ho; omega) (by unfold sto at ho; omega) (by unfold sto at ho; omega) (by unfold sto at ho; omega) (by unfold sto at ho; omega))
  have qr : QR N := by
    obtain ⟨-, -, -, ⟨d1, d2, d3⟩, cr, fg48⟩ := h.1
    have s48 : q + 6 ≤ 48 ∨ 48 + 9 ≤ q := by omega
    refine ⟨ra, k1, k2, ⟨r 24 (Or.inl rfl) d1, r 32 (Or.inr (Or.inl rfl)) d2, r 40 (Or.inr (Or.inr rfl)) d3⟩, ⟨fun j => ?_, fun j => ?_, fun j => ?_, ?_⟩, f.flg (Or.inl rfl) (by omega) s48 fg48⟩
    · rw [cl _ _ (by omega) (by omega) (by omega) (by omega) (by omega)]; exact cr.1 j
    · rw [cl _ _ (by omega) (by omega) (by omega) (by omega) (by omega)]; exact cr.2.1 j
    · rw [cl _ _ (by omega) (by omega) (by omega) (by omega) (by omega)]; exact cr.2.2.1 j
    · rw [cl _ _ (by omega) (by omega) (by omega) (by omega) (by omega)]; exact cr.2.2.2
  have pgb : pg N b = q ∨ pg N b = pg m b := by
    rcases hsw with w | w
    · refine Or.inl ?_
      unfold pg
      rw [eb, w.1]
      rfl
    · refine Or.inr ?_
      show (mr N (bx N b) 4).getD 0 = pg m b
      rw [eb, w.1]
      rfl
  have k0N : K0 N := by
    obtain ⟨g1, g2, g3, g4, g5, -⟩ := k0
    unfold K0
    rw [c16, c17]
    simp only [eb, efl, f.zz]
    have isN : ∀ p, isP m p → (p = 62 ∨ ∃ d : Int, 0 ≤ d ∧ d < mi m 0 16 ∧ p = bx m d + 3) := fun p hp => hp
    refine ⟨fun c c0 cn => ?_, fun c d c0 cn d0 dn cd => ?_, g3, g4, g5, ?_⟩
    · have C := g1 c c0 cn
      refine ⟨C.1, C.2.1, ?_⟩
      by_cases cb : c = b
      · rcases pgb with w | w
        · rw [cb, w]; exact isN q qP.1
        · rw [cb, w]; exact isN _ (pP b hb.1 hb.2)
      · rw [ep c c0 cn cb]; exact C.2.2
    · refine ⟨(g2 c d c0 cn d0 dn cd).1, ?_⟩
      have s := (g2 c d c0 cn d0 dn cd).2
      by_cases cb : c = b
      · have db : d ≠ b := fun z => cd (cb.trans z.symm)
        rw [ep d d0 dn db, cb]
        rcases pgb with w | w
        · rw [w]; exact Ne.symm (qP.2 d d0 dn)
        · rw [w, ← cb]; exact s
      · rw [ep c c0 cn cb]
        by_cases db : d = b
        · rw [db]
          rcases pgb with w | w
          · rw [w]; exact qP.2 c c0 cn
          · rw [w, ← db]; exact s
        · rw [ep d d0 dn db]; exact s
    · rcases hsw with w | w
      · have w1 : pg N b = q := by
          unfold pg
          rw [eb, w.1]
          rfl
        refine ⟨pg m b, w.2, isN _ (pP b hb.1 hb.2), fun c c0 cn => ?_⟩
        by_cases cb : c = b
        · rw [cb, w1]; exact Ne.symm (qP.2 b hb.1 hb.2)
        · rw [ep c c0 cn cb]; exact (g2 c b c0 cn hb.1 hb.2 cb).2
      · have w1 : pg N b = pg m b := by
          show (mr N (bx N b) 4).getD 0 = pg m b
          rw [eb, w.1]
          rfl
        refine ⟨q, w.2, isN q qP.1, fun c c0 cn => ?_⟩
        by_cases cb : c = b
        · rw [cb, w1]; exact qP.2 b hb.1 hb.2
        · rw [ep c c0 cn cb]; exact qP.2 c c0 cn
  have kq : KQ N := fun s hs => by
    have hb5 := (h.1.2.1.2 b hb.1 (by omega)).1.1.2.2.2
    have low := (pP b hb.1 hb.2).low k0
    have pb := (pP b hb.1 hb.2).bx k0 hb.1 hb.2
    have qb := qP.1.bx k0 hb.1 hb.2
    rcases hsw with w | w
    · rw [w.2] at hs
      obtain rfl := Option.some.inj hs
      exact f.ob (by omega) (by omega) (Or.inl (by omega)) hb5
    · rw [w.2] at hs
      obtain rfl := Option.some.inj hs
      exact f.ob (by omega) (by omega) (Or.inl (by omega)) (h.kz.1.2 _ hq)
  refine ⟨qr, k0N, fun c c0 cn => ?_, h.k4.fr (fun c j hc => cl c j (by omega) (by omega) (by omega) (by omega) (by omega)), ⟨by rw [t1, t16], fun j hj => by omega⟩, h.k6.fr (fun c j hc => cl c j (by omega) (by omega) (by omega) (by omega) (by omega)), h.k7.fr (fun c j hc => cl c j (by omega) (by omega) (by omega) (by omega) (by omega)) (fun c j _ => f.2.2.2 c j), h.k8.fr (fun c j hc => cl c j (by omega) (by omega) (by omega) (by omega) (by omega)), h.k9.fr (fun c j hc => cl c j (by omega) (by omega) (by omega) (by omega) (by omega)), h.ka.fr (fun c j hc => cl c j (by omega) (by omega) (by omega) (by omega) (by omega)), h.kt.fr (fun j => cl 52 j (by omega) (by omega) (by omega) (by omega) (by omega)), fun c c0 cn => ?_, ⟨⟨?_, kq⟩, fun c c0 cn s hs => ?_⟩⟩
  · rw [c16] at cn
    by_cases cb : c = b
    · rw [cb]; exact k3
    · have g := h.k3 c c0 cn
      have nb := n91 c
      rw [ep c c0 cn cb, oth c c0 cn (pg m c) 5 (by omega)]
      refine ⟨g.1, fun l l0 l1 => ?_⟩
      have l1 : l < mi N 91 c.toNat := l1
      rw [r91 c c0 (by omega) cb] at l1
      show mi N 97 _ ≤ _
      rw [rr c l c0 (by omega) cb l0 (by omega) 97 (by omega) (by omega)]
      exact g.2 l l0 l1
  · rw [c1] at c0
    rw [r91 c (by omega) cn (by omega), cl 90 _ (by omega) (by omega) (by omega) (by omega) (by omega)]
    exact h.kb c c0 cn
  · rw [f.zz, c16, c17]; exact h.kz.1.1
  · rw [c16] at cn
    rw [eb, oth c c0 cn _ _ (by omega), cl 88 _ (by omega) (by omega) (by omega) (by omega) (by omega)]
    exact h.kz.2 c c0 cn s hs

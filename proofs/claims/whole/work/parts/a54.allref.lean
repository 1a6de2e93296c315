/-! all(): the reference's side -/
/-- a tick of the reference in which none is told to fail or to rest -/
theorem ref_tick {m N : AM} {S : ZS} {t : Int} {fe : Nat → Int} (h : RI m) (hB : HB m) (h43 : mi m 86 43 < 0) (h46 : mi m 86 46 < 0) (hF : FR m N) (hR : RT N) (hJ : JM N S) (hLN : LKA N) (h39 : mi N 86 39 = t) (ht : 0 ≤ t ∧ t ≤ 200) (hfe : ∀ j : Nat, j < 3 → mi N 114 j = fe j) : JM (taM N) (zwTick (wM m) fe t (-1) S) := by
  have c := fun k hk1 => hF.cell (o := 86) (j := k) (by decide) hk1
  have eW := wM_fr hF
  have q := taM_zwA (m := N) (fe := fe) (t := t) (rest := if t ≥ mi N 86 47 then mi N 86 46 else -1) (by rw [eW]; exact wM_ok h hB) hLN hR (by rw [c 45 (by decide)]; exact h.2.2.1) hJ hfe h39 ht (Or.inl (by rw [c 43 (by decide)]; exact h43)) rfl
  rw [eW] at q
  have er : ∀ b, 0 ≤ b → zwGo (wM m) (S.po, S.fa, fe, t) (if t ≥ mi N 86 47 then mi N 86 46 else -1) b = zwGo (wM m) (S.po, S.fa, fe, t) (-1) b := by
    intro b hb
    funext T
    unfold zwGo
    have e1 : b ≠ (if t ≥ mi N 86 47 then mi N 86 46 else -1) := by
      rw [c 46 (by decide)]
      split <;> omega
    have e2 : b ≠ -1 := by omega
    by_cases c1 : T.fa b.toNat = 0
    · rw [if_pos ⟨e1, c1⟩, if_pos ⟨e2, c1⟩]
    · rw [if_neg (fun z => c1 z.2), if_neg (fun z => c1 z.2)]
  have key : ∀ (k : Nat) (b : Int) (T : ZS), 0 ≤ b → zwAl (wM m) (S.po, S.fa, fe, t) (if t ≥ mi N 86 47 then mi N 86 46 else -1) k b T = zwAl (wM m) (S.po, S.fa, fe, t) (-1) k b T := by
    intro k
    induction k with
    | zero => intro b T hb; rfl
    | succ k ih =>
      intro b T hb
      show zwAl _ _ _ k (b + 1) (zwGo _ _ _ b T) = zwAl _ _ _ k (b + 1) (zwGo _ _ _ b T)
      rw [er b hb]
      exact ih _ _ (by omega)
  unfold zwTick at q ⊢
  rw [key _ _ _ (Int.le_refl _)] at q
  exact q
/-- what is felt at a tick of a flight from a beginning -/
def fbF (m : AM) (f a b c : Int) : Int → Nat → Int := fun t j => FX12_heldBy m ((if (j : Int) = 0 then a else if (j : Int) = 1 then b else c) + (t * mi m 102 ((3 * f) + j).toNat)) (mi m 103 ((3 * f) + j).toNat)
theorem held_m (m N : AM) (v c : Int) : FX12_heldBy N v c = FX12_heldBy m v c := rfl
theorem fgL_114 {N : AM} {f a b c : Int} (hI : IM N) : ∀ j : Nat, j < 3 → mi (fgL f a b c 3 0 N) 114 j = fbF N f a b c (mi N 86 39) j := by
  have hb : ∀ (M : AM) (k : Int), (∀ o i, o ≠ 114 → mi M o i = mi N o i) → hbX M f a b c k = hbX N f a b c k := fun M k e => by
    unfold hbX
    rw [e 86 39 (by decide), e 102 _ (by decide), e 103 _ (by decide)]
    rfl
  have g := fun k => hbX_rng hI f a b c k
  have e1 : ∀ (v : Int) (o i : Nat), o ≠ 114 → mi (si N 114 0 v) o i = mi N o i := fun v o i ho => mi_si_ne _ _ (fun q => ho q.1)
  have e2 : ∀ (v w : Int) (o i : Nat), o ≠ 114 → mi (si (si N 114 0 v) 114 1 w) o i = mi N o i := fun v w o i ho => by rw [mi_si_ne _ _ (fun q => ho q.1), e1 v o i ho]
  have e : fgL f a b c 3 0 N = si (si (si N 114 0 (hbX N f a b c 0)) 114 1 (hbX N f a b c 1)) 114 2 (hbX N f a b c 2) := by
    show si (si (si N 114 0 (hbX N f a b c 0)) 114 1 (hbX (si N 114 0 (hbX N f a b c 0)) f a b c 1)) 114 2 (hbX (si (si N 114 0 (hbX N f a b c 0)) 114 1 (hbX (si N 114 0 (hbX N f a b c 0)) f a b c 1)) f a b c 2) = _
    rw [hb (si N 114 0 (hbX N f a b c 0)) 1 (e1 _), hb (si (si N 114 0 (hbX N f a b c 0)) 114 1 (hbX N f a b c 1)) 2 (e2 _ _)]
  intro j hj
  have q : j = 0 ∨ j = 1 ∨ j = 2 := by omega
  have g0 := g 0
  have g1 := g 1
  have g2 := g 2
  rw [e]
  rcases q with rfl | rfl | rfl
  · rw [mi_si_ne _ _ (by decide), mi_si_ne _ _ (by decide), mi_si_same _ _ _ (by omega) (by omega)]; rfl
  · rw [mi_si_ne _ _ (by decide), mi_si_same _ _ _ (by omega) (by omega)]; rfl
  · rw [mi_si_same _ _ _ (by omega) (by omega)]; rfl
theorem goL_sem {m : AM} {f n a b c : Int} (h : RI m) (hB : HB m) (h43 : mi m 86 43 < 0) (h46 : mi m 86 46 < 0) (hn : n ≤ 200) : ∀ (x : Nat) (t : Int) (N : AM) (S : ZS), RI N → FR m N → JM N S → FD S → (¬ ∃ j : Nat, j < 6 ∧ S.fa j ≠ 0) → mi N 86 39 = t → t + x = n → 0 ≤ t → ((goL f a b c x N).1 ≠ 0 ↔ ∃ j : Nat, j < 6 ∧ (zwRun (fun t S => zwTick (wM m) (fbF m f a b c t) t (-1) S) (fun _ => false) x t S).fa j ≠ 0) := by
  intro x
  induction x with
  | zero => intro t N S _ _ _ _ hd _ _ _; exact ⟨fun q => absurd rfl q, fun q => absurd q hd⟩
  | succ x ih =>
    intro t N S hRN hF hJ hFD hd h39 htn ht
    have fk := fgL_keep f a b c 3 0 N hRN
    have hF2 : FR m (fgL f a b c 3 0 N) := hF.trans fk.2.1
    have e114 : ∀ j o, o ≠ 114 → mi (fgL f a b c 3 0 N) o j = mi N o j := by
      have : ∀ (n : Nat) (k : Int) (M : AM) (o j : Nat), o ≠ 114 → mi (fgL f a b c n k M) o j = mi M o j := by
        intro n
        induction n with
        | zero => intro k M o j _; rfl
        | succ n ih2 => intro k M o j ho; exact (ih2 _ _ o j ho).trans (mi_si_ne _ _ (fun q => ho q.1))
      exact fun j o ho => this 3 0 N o j ho
    have hJ2 : JM (fgL f a b c 3 0 N) S := hJ.rows (fun o ho j => e114 j o ((by decide : ∀ o ∈ ([106, 107, 108, 111, 112, 113] : List Nat), o ≠ 114) o ho)) (fun k _ _ => e114 _ _ (by decide))
    have efb : ∀ j : Nat, fbF N f a b c t j = fbF m f a b c t j := fun j => by
      unfold fbF
      rw [hF.cell (o := 102) (by decide) (by omega), hF.cell (o := 103) (by decide) (by omega)]
      rfl
    have T := ref_tick (fe := fbF m f a b c t) h hB h43 h46 hF2 fk.1.1 hJ2 fk.1.2.2.2 ((e114 _ _ (by decide)).trans h39) ⟨ht, by omega⟩ (fun j hj => by rw [fgL_114 hRN.i j hj, h39]; exact efb j)
    have FT : FD (zwTick (wM m) (fbF m f a b c t) t (-1) S) := hFD.tick (wM_ok h hB) ht
    have R3 := fk.1.all
    have e35 : mi (taM (fgL f a b c 3 0 N)) 86 35 = (zwTick (wM m) (fbF m f a b c t) t (-1) S).fi.1 := T.2.2.2.2.2.2.1
    have ez : zwRun (fun t S => zwTick (wM m) (fbF m f a b c t) t (-1) S) (fun _ => false) (x + 1) t S = zwRun (fun t S => zwTick (wM m) (fbF m f a b c t) t (-1) S) (fun _ => false) x (t + 1) (zwTick (wM m) (fbF m f a b c t) t (-1) S) := rfl
    rw [ez]
    by_cases c1 : mi (taM (fgL f a b c 3 0 N)) 86 35 ≥ 0
    · have eg : goL f a b c (x + 1) N = (1, taM (fgL f a b c 3 0 N)) := if_pos c1
      rw [eg]
      refine ⟨fun _ => ?_, fun _ => by show (1 : Int) ≠ 0; decide⟩
      obtain ⟨j, hj, hz⟩ := FT.mp (by rw [← e35]; exact c1)
      exact ⟨j, hj, by rw [zwRun_dead (r := fun _ => -1) x (t + 1) _ j hz]; exact hz⟩
    · have eg : goL f a b c (x + 1) N = goL f a b c x (si (taM (fgL f a b c 3 0 N)) 86 39 (mi (taM (fgL f a b c 3 0 N)) 86 39 + 1)) := if_neg c1
      have ka := fk.1.1.all (by rw [hF2.cell (o := 86) (j := 45) (by decide) (by decide)]; exact h.2.2.1) fk.1.2.2.2
      have e39 : mi (taM (fgL f a b c 3 0 N)) 86 39 = t := (ka.2.2 39 (by decide)).trans ((e114 _ _ (by decide)).trans h39)
      rw [eg, e39]
      refine ih (t + 1) _ _ (R3.time (by omega) (by omega)) (hF2.all.one (by omega) _) (T.rows (fun o ho j => mi_si_ne _ _ (fun q => (by decide : ∀ o ∈ ([106, 107, 108, 111, 112, 113] : List Nat), o ≠ 86) o ho q.1)) (fun k _ _ => mi_si_ne _ _ (by omega))) FT (fun q => c1 (by rw [e35]; exact FT.mpr q)) (mi_si_same _ _ _ (by omega) (by omega)) (by omega) (by omega)
theorem goM_sem {m : AM} {f n a b c : Int} (h : RI m) (hB : HB m) (h43 : mi m 86 43 < 0) (h46 : mi m 86 46 < 0) (hn0 : 0 ≤ n) (hn : n ≤ 200) : (goM m f n a b c).1 ≠ 0 ↔ zDie (wM m) (fbF m f a b c) n := by
  have hz := begin_zw (m := m)
  exact goL_sem h hB h43 h46 hn n.toNat 0 _ zwZero (h.begins.time (by decide) (by decide)) (((FR.rf m).begins).one (by omega) _) hz.1 FD.zero (by rintro ⟨j, -, g⟩; exact g rfl) hz.2 (by omega) (by decide)
/-- a state of the reference from which beginnings are tried -/
def GS (m N : AM) : Prop := RI N ∧ FQ m N ∧ mi N 86 43 < 0 ∧ mi N 86 46 < 0 ∧ mi N 86 48 < 0
def gA (m : AM) (f n a b c : Int) : Prop := zDie (wN m) (fbF m f a b c) n
theorem GS.go {m N : AM} (hm : RS m) (h : GS m N) {f n a b c : Int} (hn0 : 0 ≤ n) (hn : n ≤ 200) : ((goM N f n a b c).1 ≠ 0 ↔ gA m f n a b c) ∧ GS m (goM N f n a b c).2 := by
  have q := goM_sem (f := f) (a := a) (b := b) (c := c) h.1 (HB.fq hm h.2.1) h.2.2.1 h.2.2.2.1 hn0 hn
  have k := goM_keep (f := f) (a := a) (b := b) (c := c) h.1 hn0 hn
  have ef : fbF N f a b c = fbF m f a b c := by
    funext t j
    unfold fbF
    rw [h.2.1.cell (o := 102) (by decide) (by decide) (by omega), h.2.1.cell (o := 103) (by decide) (by decide) (by omega)]
    rfl
  rw [wM_wN h.2.2.2.2, h.2.1.wn, ef] at q
  refine ⟨q, k.1, h.2.1.trans k.2.1.fq, ?_, ?_, ?_⟩
  · rw [k.2.1.cell (o := 86) (j := 43) (by decide) (by decide)]; exact h.2.2.1
  · rw [k.2.1.cell (o := 86) (j := 46) (by decide) (by decide)]; exact h.2.2.2.1
  · rw [k.2.1.cell (o := 86) (j := 48) (by decide) (by decide)]; exact h.2.2.2.2
theorem alC_sem {m : AM} (hm : RS m) {f n a b : Int} (hn0 : 0 ≤ n) (hn : n ≤ 200) : ∀ (x : Nat) (c h : Int) (N : AM), GS m N → ((alC f n a b x c h N).1 = 0 ∧ (∀ i : Nat, i < x → ¬ gA m f n a b (c + i)) ∧ (alC f n a b x c h N).2.1 = h + x ∧ GS m (alC f n a b x c h N).2.2) ∨ ((alC f n a b x c h N).1 ≠ 0 ∧ ∃ i : Nat, i < x ∧ gA m f n a b (c + i) ∧ (∀ i' : Nat, i' < i → ¬ gA m f n a b (c + i')) ∧ (alC f n a b x c h N).2.1 = h + i ∧ ∃ N', GS m N' ∧ (alC f n a b x c h N).2.2 = finM N' a b (c + i)) := by
  intro x
  induction x with
  | zero => intro c h N hN; exact Or.inl ⟨rfl, fun i hi => by omega, by show h = h + ((0 : Nat) : Int); omega, hN⟩
  | succ x ih =>
    intro c h N hN
    have g := hN.go hm (f := f) (a := a) (b := b) (c := c) hn0 hn
    by_cases c1 : (goM N f n a b c).1 ≠ 0
    · have e : alC f n a b (x + 1) c h N = (1, h, finM (goM N f n a b c).2 a b c) := if_pos c1
      rw [e]
      refine Or.inr ⟨by show (1 : Int) ≠ 0; decide, 0, by omega, ?_, fun i' hi => by omega, by show h = h + ((0 : Nat) : Int); omega, _, g.2, ?_⟩
      · rw [show c + ((0 : Nat) : Int) = c by omega]; exact g.1.mp c1
      · rw [show c + ((0 : Nat) : Int) = c by omega]
    · have e : alC f n a b (x + 1) c h N = alC f n a b x (c + 1) (h + 1) (goM N f n a b c).2 := if_neg c1
      have n0 : ¬ gA m f n a b c := fun z => c1 (g.1.mpr z)
      rw [e]
      have sh : ∀ i' : Nat, (∀ i : Nat, i < i' → ¬ gA m f n a b (c + 1 + i)) → ∀ i : Nat, i < i' + 1 → ¬ gA m f n a b (c + i) := fun i' hh i hi => by
        by_cases z : i = 0
        · rw [z, show c + ((0 : Nat) : Int) = c by omega]; exact n0
        · have := hh (i - 1) (by omega)
          rw [show c + 1 + ((i - 1 : Nat) : Int) = c + i by omega] at this
          exact this
      rcases ih (c + 1) (h + 1) (goM N f n a b c).2 g.2 with ⟨a1, a2, a3, a4⟩ | ⟨a1, i, a2, a3, a4, a5, N', a6, a7⟩
      · exact Or.inl ⟨a1, sh x a2, by rw [a3]; omega, a4⟩
      · refine Or.inr ⟨a1, i + 1, by omega, ?_, sh i a4, by rw [a5]; omega, N', a6, ?_⟩
        · rw [show c + ((i + 1 : Nat) : Int) = c + 1 + i by omega]; exact a3
        · rw [show c + ((i + 1 : Nat) : Int) = c + 1 + i by omega]; exact a7
theorem alB_sem {m : AM} (hm : RS m) {f n a w2 l2 : Int} (hw : 0 ≤ w2) (hn0 : 0 ≤ n) (hn : n ≤ 200) : ∀ (x : Nat) (b h : Int) (N : AM), GS m N → ((alB f n a w2 l2 x b h N).1 = 0 ∧ (∀ j i : Nat, j < x → (i : Int) < w2 → ¬ gA m f n a (b + j) (l2 + i)) ∧ (alB f n a w2 l2 x b h N).2.1 = h + x * w2 ∧ GS m (alB f n a w2 l2 x b h N).2.2) ∨ ((alB f n a w2 l2 x b h N).1 ≠ 0 ∧ ∃ j i : Nat, (j < x ∧ (i : Int) < w2) ∧ gA m f n a (b + j) (l2 + i) ∧ (∀ j' i' : Nat, (i' : Int) < w2 → j' < j ∨ (j' = j ∧ i' < i) → ¬ gA m f n a (b + j') (l2 + i')) ∧ (alB f n a w2 l2 x b h N).2.1 = h + j * w2 + i ∧ ∃ N', GS m N' ∧ (alB f n a w2 l2 x b h N).2.2 = finM N' a (b + j) (l2 + i)) := by
  intro x
  induction x with
  | zero => intro b h N hN; exact Or.inl ⟨rfl, fun j i hj => by omega, by show h = h + ((0 : Nat) : Int) * w2; rw [show ((0 : Nat) : Int) * w2 = 0 from Int.zero_mul _]; omega, hN⟩
  | succ x ih =>
    intro b h N hN
    have em : ∀ y : Nat, ((y + 1 : Nat) : Int) * w2 = w2 + (y : Int) * w2 := fun y => by rw [show ((y + 1 : Nat) : Int) = (y : Int) + 1 by omega, Int.add_mul, Int.one_mul]; omega
    rcases alC_sem hm (f := f) (a := a) (b := b) hn0 hn w2.toNat l2 h N hN with ⟨a1, a2, a3, a4⟩ | ⟨a1, i, a2, a3, a4, a5, N', a6, a7⟩
    · have e : alB f n a w2 l2 (x + 1) b h N = alB f n a w2 l2 x (b + 1) (alC f n a b w2.toNat l2 h N).2.1 (alC f n a b w2.toNat l2 h N).2.2 := if_neg (fun z => z a1)
      rw [e, a3]
      have sh : ∀ j i : Nat, j = 0 → (i : Int) < w2 → ¬ gA m f n a (b + j) (l2 + i) := fun j i hj hi => by
        rw [hj, show b + ((0 : Nat) : Int) = b by omega]; exact a2 i (by omega)
      rcases ih (b + 1) (h + w2.toNat) (alC f n a b w2.toNat l2 h N).2.2 a4 with ⟨b1, b2, b3, b4⟩ | ⟨b1, j, i, b2, b3, b4, b5, N', b6, b7⟩
      · refine Or.inl ⟨b1, fun j i hj hi => ?_, by rw [b3, em]; omega, b4⟩
        by_cases z : j = 0
        · exact sh j i z hi
        · have := b2 (j - 1) i (by omega) hi
          rw [show b + 1 + ((j - 1 : Nat) : Int) = b + j by omega] at this
          exact this
      · refine Or.inr ⟨b1, j + 1, i, ⟨by omega, b2.2⟩, ?_, fun j' i' hi hl => ?_, by rw [b5, em]; omega, N', b6, ?_⟩
        · rw [show b + ((j + 1 : Nat) : Int) = b + 1 + j by omega]; exact b3
        · by_cases z : j' = 0
          · exact sh j' i' z hi
          · have := b4 (j' - 1) i' hi (by omega)
            rw [show b + 1 + ((j' - 1 : Nat) : Int) = b + j' by omega] at this
            exact this
        · rw [show b + ((j + 1 : Nat) : Int) = b + 1 + j by omega]; exact b7
    · have e : alB f n a w2 l2 (x + 1) b h N = alC f n a b w2.toNat l2 h N := if_pos a1
      rw [e]
      refine Or.inr ⟨a1, 0, i, ⟨by omega, by omega⟩, ?_, fun j' i' hi hl => ?_, by rw [a5, show ((0 : Nat) : Int) * w2 = 0 from Int.zero_mul _]; omega, N', a6, ?_⟩
      · rw [show b + ((0 : Nat) : Int) = b by omega]; exact a3
      · have z : j' = 0 := by omega
        rw [z, show b + ((0 : Nat) : Int) = b by omega]; exact a4 i' (by omega)
      · rw [show b + ((0 : Nat) : Int) = b by omega]; exact a7
theorem alA_sem {m : AM} (hm : RS m) {f n w1 l1 w2 l2 : Int} (hw1 : 0 ≤ w1) (hw : 0 ≤ w2) (hn0 : 0 ≤ n) (hn : n ≤ 200) : ∀ (x : Nat) (a h : Int) (N : AM), GS m N → ((alA f n w1 l1 w2 l2 x a h N).1 = 0 ∧ (∀ y j i : Nat, y < x → (j : Int) < w1 → (i : Int) < w2 → ¬ gA m f n (a + y) (l1 + j) (l2 + i)) ∧ GS m (alA f n w1 l1 w2 l2 x a h N).2.2) ∨ ((alA f n w1 l1 w2 l2 x a h N).1 ≠ 0 ∧ ∃ y j i : Nat, (y < x ∧ (j : Int) < w1 ∧ (i : Int) < w2) ∧ gA m f n (a + y) (l1 + j) (l2 + i) ∧ (∀ y' j' i' : Nat, (j' : Int) < w1 → (i' : Int) < w2 → y' < y ∨ (y' = y ∧ (j' < j ∨ (j' = j ∧ i' < i))) → ¬ gA m f n (a + y') (l1 + j') (l2 + i')) ∧ (alA f n w1 l1 w2 l2 x a h N).2.1 = h + (y * w1 + j) * w2 + i ∧ ∃ N', GS m N' ∧ (alA f n w1 l1 w2 l2 x a h N).2.2 = finM N' (a + y) (l1 + j) (l2 + i)) := by
  intro x
  induction x with
  | zero => intro a h N hN; exact Or.inl ⟨rfl, fun y j i hj => by omega, hN⟩
  | succ x ih =>
    intro a h N hN
    have em : ∀ y j : Nat, (((y + 1 : Nat) : Int) * w1 + j) * w2 = w1 * w2 + ((y : Int) * w1 + j) * w2 := fun y j => by
      rw [show ((y + 1 : Nat) : Int) = (y : Int) + 1 by omega, show ((y : Int) + 1) * w1 = w1 + y * w1 by rw [Int.add_mul, Int.one_mul, Int.add_comm], Int.add_assoc, Int.add_mul]
    have e1 : ((w1.toNat : Nat) : Int) = w1 := by omega
    rcases alB_sem hm (f := f) (a := a) (l2 := l2) hw hn0 hn w1.toNat l1 h N hN with ⟨a1, a2, a3, a4⟩ | ⟨a1, j, i, a2, a3, a4, a5, N', a6, a7⟩
    · have e : alA f n w1 l1 w2 l2 (x + 1) a h N = alA f n w1 l1 w2 l2 x (a + 1) (alB f n a w2 l2 w1.toNat l1 h N).2.1 (alB f n a w2 l2 w1.toNat l1 h N).2.2 := if_neg (fun z => z a1)
      rw [e, a3, e1]
      have sh : ∀ y j i : Nat, y = 0 → (j : Int) < w1 → (i : Int) < w2 → ¬ gA m f n (a + y) (l1 + j) (l2 + i) := fun y j i hy hj hi => by
        rw [hy, show a + ((0 : Nat) : Int) = a by omega]; exact a2 j i (by omega) hi
      rcases ih (a + 1) (h + w1 * w2) (alB f n a w2 l2 w1.toNat l1 h N).2.2 a4 with ⟨b1, b2, b4⟩ | ⟨b1, y, j, i, b2, b3, b4, b5, N', b6, b7⟩
      · refine Or.inl ⟨b1, fun y j i hy hj hi => ?_, b4⟩
        by_cases z : y = 0
        · exact sh y j i z hj hi
        · have := b2 (y - 1) j i (by omega) hj hi
          rw [show a + 1 + ((y - 1 : Nat) : Int) = a + y by omega] at this
          exact this
      · refine Or.inr ⟨b1, y + 1, j, i, ⟨by omega, b2.2⟩, ?_, fun y' j' i' hj hi hl => ?_, by rw [b5, em]; omega, N', b6, ?_⟩
        · rw [show a + ((y + 1 : Nat) : Int) = a + 1 + y by omega]; exact b3
        · by_cases z : y' = 0
          · exact sh y' j' i' z hj hi
          · have := b4 (y' - 1) j' i' hj hi (by omega)
            rw [show a + 1 + ((y' - 1 : Nat) : Int) = a + y' by omega] at this
            exact this
        · rw [show a + ((y + 1 : Nat) : Int) = a + 1 + y by omega]; exact b7
    · have e : alA f n w1 l1 w2 l2 (x + 1) a h N = alB f n a w2 l2 w1.toNat l1 h N := if_pos a1
      rw [e]
      refine Or.inr ⟨a1, 0, j, i, ⟨by omega, by omega, a2.2⟩, ?_, fun y' j' i' hj hi hl => ?_, by rw [a5, show ((0 : Nat) : Int) * w1 = 0 from Int.zero_mul _, Int.zero_add], N', a6, ?_⟩
      · rw [show a + ((0 : Nat) : Int) = a by omega]; exact a3
      · have z : y' = 0 := by omega
        rw [z, show a + ((0 : Nat) : Int) = a by omega]; exact a4 j' i' hi (by omega)
      · rw [show a + ((0 : Nat) : Int) = a by omega]; exact a7

/-! runs hang on a watch only by lines at which a number did not fit -/
/-- the same world, the lines of box b watched otherwise -/
def wW (W : ZW) (b : Int) (x : Int → Int) : ZW := (W.1, W.2.1, W.2.2.1, W.2.2.2.1, W.2.2.2.2.1, (fun b' l => if b' = b then x l else W.wa b' l), W.2.2.2.2.2.2)
/-- a line whose watch differs did not fit -/
def zBad (W : ZW) (b : Int) (x y : Int → Int) (S : ZS) : Prop := ∃ l : Int, 0 ≤ l ∧ l < W.nl b ∧ x l ≠ y l ∧ bt (S.mf b.toNat) l.toNat = true
theorem zBad_mis {W : ZW} {b b' l : Int} {x y : Int → Int} {S : ZS} (h : zBad W b x y S) : zBad W b x y (zwMis b' l S) := by
  obtain ⟨k, h0, h1, h2, h3⟩ := h
  refine ⟨k, h0, h1, h2, ?_⟩
  show bt (zu S.mf b'.toNat (z_ior (S.mf b'.toNat) (z_ishl 1 l)) b.toNat) k.toNat = true
  unfold zu
  split
  · next e => rw [bt_or, ← e, h3]; rfl
  · exact h3
theorem zBad_put {W V : ZW} {b b' l v : Int} {x y : Int → Int} {S : ZS} (h : zBad W b x y S) : zBad W b x y (zwPut V b' l v S) := by
  unfold zwPut
  split <;> exact h
theorem zBad_land {W V : ZW} {b b' l v : Int} {x y : Int → Int} {S : ZS} (h : zBad W b x y S) : zBad W b x y (zwLand V b' l v S).2 := by
  unfold zwLand
  split
  · split
    · exact zBad_put (zBad_mis h)
    · exact zBad_mis h
  · exact zBad_put h
theorem zBad_B {W V : ZW} {C : ZC} {e b b' l : Int} {x y : Int → Int} {S : ZS} (h : zBad W b x y S) : zBad W b x y (zwB V C e b' l S).2 := by
  unfold zwB
  split
  · exact h
  · exact zBad_land h
theorem zBad_Ln {W V : ZW} {C : ZC} {e b b' l : Int} {x y : Int → Int} {S : ZS} (h : zBad W b x y S) : zBad W b x y (zwLn V C e b' l S).2 := by
  unfold zwLn
  split
  · split
    · exact h
    · split
      · exact h
      · exact zBad_B h
  · exact zBad_B h
theorem zBad_Cg {W : ZW} {b b' p : Int} {x y : Int → Int} {S : ZS} (h : zBad W b x y S) : zBad W b x y (zwCg b' p S) := by
  unfold zwCg
  split <;> exact h
theorem zBad_Tk {W V : ZW} {C : ZC} {b b' : Int} {x y : Int → Int} : ∀ (c : Nat) (l p i : Int) (S : ZS), zBad W b x y S → zBad W b x y (zwTk V C b' c l p i S).2.2 := by
  intro c
  induction c with
  | zero => intro l p i S h; exact h
  | succ c ih =>
    intro l p i S h
    by_cases hc : V.ca b' l = (if p > 0 then 1 else 0)
    · have e : zwTk V C b' (c + 1) l p i S = zwTk V C b' c (l + 1) (zwLn V C p b' l (zwCg b' p S)).1 l (zwLn V C p b' l (zwCg b' p S)).2 := if_pos hc
      rw [e]
      exact ih _ _ _ _ (zBad_Ln (zBad_Cg h))
    · have e : zwTk V C b' (c + 1) l p i S = zwTk V C b' c (l + 1) p i S := if_neg hc
      rw [e]
      exact ih _ _ _ _ h
theorem zBad_Go {W V : ZW} {C : ZC} {r b b' : Int} {x y : Int → Int} {S : ZS} (h : zBad W b x y S) : zBad W b x y (zwGo V C r b' S) := by
  unfold zwGo
  split
  · unfold zwBx
    split
    · exact zBad_Tk _ _ _ _ _ h
    · exact zBad_Tk _ _ _ _ _ h
  · exact h
theorem zBad_Al {W V : ZW} {C : ZC} {r b : Int} {x y : Int → Int} : ∀ (c : Nat) (k : Int) (S : ZS), zBad W b x y S → zBad W b x y (zwAl V C r c k S) := by
  intro c
  induction c with
  | zero => intro k S h; exact h
  | succ c ih => intro k S h; exact ih _ _ (zBad_Go h)
theorem zBad_Run {W V : ZW} {F : Int → Nat → Int} {stop : ZS → Bool} {b : Int} {x y : Int → Int} : ∀ (c : Nat) (t : Int) (S : ZS), zBad W b x y S → zBad W b x y (zwRun (fun t S => zwTick V (F t) t (-1) S) stop c t S) := by
  intro c
  induction c with
  | zero => intro t S h; exact h
  | succ c ih =>
    intro t S h
    by_cases hs : stop S = true
    · rw [show zwRun (fun t S => zwTick V (F t) t (-1) S) stop (c + 1) t S = S from if_pos hs]
      exact h
    · rw [show zwRun (fun t S => zwTick V (F t) t (-1) S) stop (c + 1) t S = zwRun (fun t S => zwTick V (F t) t (-1) S) stop c (t + 1) (zwTick V (F t) t (-1) S) from if_neg hs]
      exact ih _ _ (zBad_Al _ _ _ h)
theorem zw_land {W : ZW} {b : Int} {x y : Int → Int} (b' l v : Int) (S : ZS) (hb : 0 ≤ b ∧ 0 ≤ b') (hl : b' = b → 0 ≤ l ∧ l < W.nl b ∧ l ≤ 11) : zwLand (wW W b y) b' l v S = zwLand (wW W b x) b' l v S ∨ zBad W b x y (zwLand (wW W b x) b' l v S).2 := by
  by_cases e : b' = b
  · by_cases exy : x l = y l
    · refine Or.inl ?_
      have ew : (wW W b y).wa b' l = (wW W b x).wa b' l := by
        show (if b' = b then y l else W.wa b' l) = if b' = b then x l else W.wa b' l
        rw [if_pos e, if_pos e, exy]
      unfold zwLand
      rw [ew]
      rfl
    · have hl2 := hl e
      unfold zwLand
      show (if v > zwMost W b' l ∨ v < -zwMost W b' l - 1 then _ else _) = (if v > zwMost W b' l ∨ v < -zwMost W b' l - 1 then _ else _) ∨ zBad W b x y (if v > zwMost W b' l ∨ v < -zwMost W b' l - 1 then _ else _ : Int × ZS).2
      by_cases c : v > zwMost W b' l ∨ v < -zwMost W b' l - 1
      · rw [if_pos c, if_pos c]
        refine Or.inr ?_
        have hbad : zBad W b x y (zwMis b' l S) := by
          refine ⟨l, hl2.1, hl2.2.1, exy, ?_⟩
          show bt (zu S.mf b'.toNat (z_ior (S.mf b'.toNat) (z_ishl 1 l)) b.toNat) l.toNat = true
          rw [e, zu_same, bt_or]
          have q := bt_shl (k := l.toNat) (by omega) (i := l.toNat) (by omega)
          rw [show ((l.toNat : Nat) : Int) = l by omega] at q
          rw [q, decide_eq_true rfl, Bool.or_true]
        split
        · exact zBad_put hbad
        · exact hbad
      · rw [if_neg c, if_neg c]
        exact Or.inl rfl
  · refine Or.inl ?_
    have ew : (wW W b y).wa b' l = (wW W b x).wa b' l := by
      show (if b' = b then y l else W.wa b' l) = if b' = b then x l else W.wa b' l
      rw [if_neg e, if_neg e]
    unfold zwLand
    rw [ew]
    rfl
theorem zw_B {W : ZW} {C : ZC} {b : Int} {x y : Int → Int} (e b' l : Int) (S : ZS) (hb : 0 ≤ b ∧ 0 ≤ b') (hl : b' = b → 0 ≤ l ∧ l < W.nl b ∧ l ≤ 11) : zwB (wW W b y) C e b' l S = zwB (wW W b x) C e b' l S ∨ zBad W b x y (zwB (wW W b x) C e b' l S).2 := by
  unfold zwB
  show (if (zwE W C S.sl e b' (W.at3 b' l).2.1 (W.at3 b' l).2.2).1 ≠ 0 then _ else zwLand (wW W b y) b' l (zwE W C S.sl e b' (W.at3 b' l).2.1 (W.at3 b' l).2.2).2 S) = (if (zwE W C S.sl e b' (W.at3 b' l).2.1 (W.at3 b' l).2.2).1 ≠ 0 then _ else zwLand (wW W b x) b' l (zwE W C S.sl e b' (W.at3 b' l).2.1 (W.at3 b' l).2.2).2 S) ∨ zBad W b x y (if (zwE W C S.sl e b' (W.at3 b' l).2.1 (W.at3 b' l).2.2).1 ≠ 0 then _ else zwLand (wW W b x) b' l (zwE W C S.sl e b' (W.at3 b' l).2.1 (W.at3 b' l).2.2).2 S : Int × ZS).2
  by_cases c : (zwE W C S.sl e b' (W.at3 b' l).2.1 (W.at3 b' l).2.2).1 ≠ 0
  · rw [if_pos c, if_pos c]
    exact Or.inl rfl
  · rw [if_neg c, if_neg c]
    exact zw_land b' l _ S hb hl
theorem zw_Ln {W : ZW} {C : ZC} {b : Int} {x y : Int → Int} (e b' l : Int) (S : ZS) (hb : 0 ≤ b ∧ 0 ≤ b') (hl : b' = b → 0 ≤ l ∧ l < W.nl b ∧ l ≤ 11) : zwLn (wW W b y) C e b' l S = zwLn (wW W b x) C e b' l S ∨ zBad W b x y (zwLn (wW W b x) C e b' l S).2 := by
  have hB := zw_B (C := C) (x := x) (y := y) e b' l S hb hl
  have eE : ∀ z fr to, zwE (wW W b z) C S.sl e b' fr to = zwE W C S.sl e b' fr to := fun _ _ _ => rfl
  have eA : ∀ z, (wW W b z).at3 b' l = W.at3 b' l := fun _ => rfl
  unfold zwLn
  simp only [eE, eA]
  by_cases c : (W.at3 b' l).1 < (W.at3 b' l).2.1
  · rw [if_pos c, if_pos c]
    by_cases c1 : (zwE W C S.sl e b' (W.at3 b' l).1 (W.at3 b' l).2.1).1 ≠ 0
    · rw [if_pos c1, if_pos c1]; exact Or.inl rfl
    · rw [if_neg c1, if_neg c1]
      by_cases c2 : (zwE W C S.sl e b' (W.at3 b' l).1 (W.at3 b' l).2.1).2 = 0
      · rw [if_pos c2, if_pos c2]; exact Or.inl rfl
      · rw [if_neg c2, if_neg c2]; exact hB
  · rw [if_neg c, if_neg c]; exact hB
theorem zw_Tk {W : ZW} {C : ZC} {b b' : Int} {x y : Int → Int} (hb : 0 ≤ b ∧ 0 ≤ b') (hn : W.nl b' ≤ 12) : ∀ (c : Nat) (l p i : Int) (S : ZS), 0 ≤ l → l + c = W.nl b' → zwTk (wW W b y) C b' c l p i S = zwTk (wW W b x) C b' c l p i S ∨ zBad W b x y (zwTk (wW W b x) C b' c l p i S).2.2 := by
  intro c
  induction c with
  | zero => intro l p i S _ _; exact Or.inl rfl
  | succ c ih =>
    intro l p i S h0 hc
    have eca : ∀ z, (wW W b z).ca b' l = W.ca b' l := fun _ => rfl
    by_cases hca : W.ca b' l = (if p > 0 then 1 else 0)
    · have e1 : zwTk (wW W b y) C b' (c + 1) l p i S = zwTk (wW W b y) C b' c (l + 1) (zwLn (wW W b y) C p b' l (zwCg b' p S)).1 l (zwLn (wW W b y) C p b' l (zwCg b' p S)).2 := if_pos hca
      have e2 : zwTk (wW W b x) C b' (c + 1) l p i S = zwTk (wW W b x) C b' c (l + 1) (zwLn (wW W b x) C p b' l (zwCg b' p S)).1 l (zwLn (wW W b x) C p b' l (zwCg b' p S)).2 := if_pos hca
      rw [e1, e2]
      rcases zw_Ln (W := W) (C := C) (x := x) (y := y) p b' l (zwCg b' p S) hb (fun z => ⟨h0, by rw [← z]; omega, by omega⟩) with h | h
      · rw [h]
        exact ih _ _ _ _ (by omega) (by omega)
      · exact Or.inr (zBad_Tk _ _ _ _ _ h)
    · have e1 : zwTk (wW W b y) C b' (c + 1) l p i S = zwTk (wW W b y) C b' c (l + 1) p i S := if_neg hca
      have e2 : zwTk (wW W b x) C b' (c + 1) l p i S = zwTk (wW W b x) C b' c (l + 1) p i S := if_neg hca
      rw [e1, e2]
      exact ih _ _ _ _ (by omega) (by omega)
theorem zw_Go {W : ZW} {C : ZC} {r b b' : Int} {x y : Int → Int} (S : ZS) (hb : 0 ≤ b ∧ 0 ≤ b') (hn : 0 ≤ W.nl b' ∧ W.nl b' ≤ 12) : zwGo (wW W b y) C r b' S = zwGo (wW W b x) C r b' S ∨ zBad W b x y (zwGo (wW W b x) C r b' S) := by
  have q := zw_Tk (C := C) (x := x) (y := y) hb hn.2 (W.nl b').toNat 0 0 0 S (by decide) (by omega)
  have en : ∀ z, (wW W b z).nl b' = W.nl b' := fun _ => rfl
  unfold zwGo
  by_cases c : b' ≠ r ∧ S.fa b'.toNat = 0
  · rw [if_pos c, if_pos c]
    unfold zwBx
    rw [en, en]
    rcases q with h | h
    · rw [h]; exact Or.inl rfl
    · refine Or.inr ?_
      split
      · exact h
      · exact h
  · rw [if_neg c, if_neg c]; exact Or.inl rfl
theorem zw_Al {W : ZW} {C : ZC} {r b : Int} {x y : Int → Int} (hok : W.ok) (hb : 0 ≤ b) : ∀ (c : Nat) (k : Int) (S : ZS), 0 ≤ k → k + c = W.nb → zwAl (wW W b y) C r c k S = zwAl (wW W b x) C r c k S ∨ zBad W b x y (zwAl (wW W b x) C r c k S) := by
  intro c
  induction c with
  | zero => intro k S _ _; exact Or.inl rfl
  | succ c ih =>
    intro k S h0 hc
    show zwAl (wW W b y) C r c (k + 1) (zwGo (wW W b y) C r k S) = zwAl (wW W b x) C r c (k + 1) (zwGo (wW W b x) C r k S) ∨ zBad W b x y (zwAl (wW W b x) C r c (k + 1) (zwGo (wW W b x) C r k S))
    rcases zw_Go (C := C) (r := r) (x := x) (y := y) S ⟨hb, h0⟩ (hok.2 k h0 (by omega)).1 with h | h
    · rw [h]
      exact ih _ _ (by omega) (by omega)
    · exact Or.inr (zBad_Al _ _ _ h)
theorem zw_Run {W : ZW} {F : Int → Nat → Int} {stop : ZS → Bool} {b : Int} {x y : Int → Int} (hok : W.ok) (hb : 0 ≤ b) : ∀ (c : Nat) (t : Int) (S : ZS), zwRun (fun t S => zwTick (wW W b y) (F t) t (-1) S) stop c t S = zwRun (fun t S => zwTick (wW W b x) (F t) t (-1) S) stop c t S ∨ zBad W b x y (zwRun (fun t S => zwTick (wW W b x) (F t) t (-1) S) stop c t S) := by
  intro c
  induction c with
  | zero => intro t S; exact Or.inl rfl
  | succ c ih =>
    intro t S
    by_cases hs : stop S = true
    · rw [show ∀ z, zwRun (fun t S => zwTick (wW W b z) (F t) t (-1) S) stop (c + 1) t S = S from fun z => if_pos hs, show zwRun (fun t S => zwTick (wW W b x) (F t) t (-1) S) stop (c + 1) t S = S from if_pos hs]
      exact Or.inl rfl
    · have en : ∀ z, zwRun (fun t S => zwTick (wW W b z) (F t) t (-1) S) stop (c + 1) t S = zwRun (fun t S => zwTick (wW W b z) (F t) t (-1) S) stop c (t + 1) (zwTick (wW W b z) (F t) t (-1) S) := fun z => if_neg hs
      rw [en x, en y]
      rcases zw_Al (C := (S.po, S.fa, F t, t)) (r := -1) (x := x) (y := y) hok hb W.nb.toNat 0 S (Int.le_refl _) (by have := hok.1.1; omega) with h | h
      · have h' : zwTick (wW W b y) (F t) t (-1) S = zwTick (wW W b x) (F t) t (-1) S := h
        rw [h']
        exact ih _ _
      · exact Or.inr (zBad_Run _ _ _ h)
/-- flown with other watches, it goes the same, unless a line whose watch differs did not fit -/
theorem zwFly_watch {W : ZW} (F : Int → Nat → Int) (n u : Int) {b : Int} {x y : Int → Int} (hok : W.ok) (hb : 0 ≤ b) (h : ¬ zBad W b x y (zwFly (wW W b x) F n u)) : zwFly (wW W b y) F n u = zwFly (wW W b x) F n u := by
  rcases zw_Run (F := F) (stop := zwDead u) (x := x) (y := y) hok hb n.toNat 0 zwZero with q | q
  · exact q
  · exact absurd q h

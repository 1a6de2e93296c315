/-! what is felt but never read changes nothing -/
theorem sEV_rd {cd : Int → Nat × Int} {rd rd' : Nat → Int → Int × Int} : ∀ (c : Nat) (k n : Int) (f : Nat → Int), (∀ j, k ≤ j → j < k + c → (cd j).1 < 6 → rd' (cd j).1 (cd j).2 = rd (cd j).1 (cd j).2) → sEV cd rd' c k n f = sEV cd rd c k n f := by
  intro c
  induction c with
  | zero => intro k n f _; rfl
  | succ c ih =>
    intro k n f h
    have h' : ∀ j, k + 1 ≤ j → j < k + 1 + c → (cd j).1 < 6 → rd' (cd j).1 (cd j).2 = rd (cd j).1 (cd j).2 := fun j h1 h2 => h j (by omega) (by omega)
    unfold sEV
    by_cases c1 : (cd k).1 < 6
    · rw [if_pos c1, if_pos c1, h k (Int.le_refl _) (by omega) c1]
      split
      · rfl
      · exact ih _ _ _ h'
    · rw [if_neg c1, if_neg c1]
      by_cases c2 : (cd k).1 = 6
      · rw [if_pos c2, if_pos c2]
        exact ih _ _ _ h'
      · rw [if_neg c2, if_neg c2]
        split
        · rfl
        · exact ih _ _ _ h'
/-- FELT k is read by a word of a line of box b -/
def rdF (W : ZW) (b k : Int) : Prop := ∃ l j : Int, (0 ≤ l ∧ l < W.nl b) ∧ ((W.at3 b l).1 ≤ j ∧ j < (W.at3 b l).2.2) ∧ W.cd b j = (3, k)
theorem zwE_rd {W : ZW} {po fa fe fe' : Nat → Int} {t : Int} {sl : Nat → Int} {e b l fr to : Int} (hl : 0 ≤ l ∧ l < W.nl b) (h1 : (W.at3 b l).1 ≤ fr) (h2 : to ≤ (W.at3 b l).2.2) (h : ∀ k, rdF W b k → fe' k.toNat = fe k.toNat) : zwE W (po, fa, fe', t) sl e b fr to = zwE W (po, fa, fe, t) sl e b fr to := by
  have q : ∀ f : Nat → Int, sEV (W.cd b) (zwRd W (po, fa, fe', t) sl e b) (to - fr).toNat fr 0 f = sEV (W.cd b) (zwRd W (po, fa, fe, t) sl e b) (to - fr).toNat fr 0 f := fun f => sEV_rd _ _ _ _ (fun j a1 a2 a3 => by
    unfold zwRd
    by_cases c3 : (W.cd b j).1 = 3
    · have g := h (W.cd b j).2 ⟨l, j, hl, ⟨by omega, by omega⟩, by rw [← c3]⟩
      rw [c3]
      simp only [show ¬ (3 : Nat) = 0 by decide, show ¬ (3 : Nat) = 1 by decide, show ¬ (3 : Nat) = 2 by decide, if_false, if_true]
      show (0, fe' _) = (0, fe _)
      rw [g]
    · simp only [if_neg c3]
      rfl)
  unfold zwE eV
  simp only [q]
theorem zwB_rd {W : ZW} {po fa fe fe' : Nat → Int} {t e b l : Int} (S : ZS) (hl : 0 ≤ l ∧ l < W.nl b) (h1 : (W.at3 b l).1 ≤ (W.at3 b l).2.1) (h : ∀ k, rdF W b k → fe' k.toNat = fe k.toNat) : zwB W (po, fa, fe', t) e b l S = zwB W (po, fa, fe, t) e b l S := by
  unfold zwB
  rw [zwE_rd hl h1 (Int.le_refl _) h]
theorem zwLn_rd {W : ZW} {po fa fe fe' : Nat → Int} {t e b l : Int} (S : ZS) (hl : 0 ≤ l ∧ l < W.nl b) (h1 : (W.at3 b l).1 ≤ (W.at3 b l).2.1) (h2 : (W.at3 b l).2.1 ≤ (W.at3 b l).2.2) (h : ∀ k, rdF W b k → fe' k.toNat = fe k.toNat) : zwLn W (po, fa, fe', t) e b l S = zwLn W (po, fa, fe, t) e b l S := by
  unfold zwLn
  rw [zwE_rd hl (Int.le_refl _) h2 h, zwB_rd S hl h1 h]
theorem zwTk_rd {W : ZW} {po fa fe fe' : Nat → Int} {t b : Int} (hok : W.okB b) (h : ∀ k, rdF W b k → fe' k.toNat = fe k.toNat) : ∀ (c : Nat) (l p i : Int) (S : ZS), 0 ≤ l → l + c = W.nl b → zwTk W (po, fa, fe', t) b c l p i S = zwTk W (po, fa, fe, t) b c l p i S := by
  intro c
  induction c with
  | zero => intro l p i S _ _; rfl
  | succ c ih =>
    intro l p i S h0 hc
    have hL := (hok.2.1 l h0 (by omega)).1
    unfold zwTk
    rw [zwLn_rd _ ⟨h0, by omega⟩ hL.2.1 hL.2.2.1 h, ih _ _ _ _ (by omega) (by omega), ih _ _ _ _ (by omega) (by omega)]
theorem zwGo_rd {W : ZW} {po fa fe fe' : Nat → Int} {t r b : Int} (hok : W.okB b) (h : ∀ k, rdF W b k → fe' k.toNat = fe k.toNat) (S : ZS) : zwGo W (po, fa, fe', t) r b S = zwGo W (po, fa, fe, t) r b S := by
  unfold zwGo zwBx
  rw [zwTk_rd hok h (W.nl b).toNat 0 0 0 S (Int.le_refl _) (by have := hok.1; omega)]
theorem zwAl_rd {W : ZW} {po fa fe fe' : Nat → Int} {t r : Int} (hok : W.ok) (h : ∀ b, 0 ≤ b → b < W.nb → ∀ k, rdF W b k → fe' k.toNat = fe k.toNat) : ∀ (c : Nat) (b : Int) (S : ZS), 0 ≤ b → b + c = W.nb → zwAl W (po, fa, fe', t) r c b S = zwAl W (po, fa, fe, t) r c b S := by
  intro c
  induction c with
  | zero => intro b S _ _; rfl
  | succ c ih =>
    intro b S h0 hc
    unfold zwAl
    rw [zwGo_rd (hok.2 b h0 (by omega)) (h b h0 (by omega)), ih _ _ (by omega) (by omega)]
theorem zwTick_rd {W : ZW} {fe fe' : Nat → Int} {t r : Int} (hok : W.ok) (h : ∀ b, 0 ≤ b → b < W.nb → ∀ k, rdF W b k → fe' k.toNat = fe k.toNat) (S : ZS) : zwTick W fe' t r S = zwTick W fe t r S := zwAl_rd hok h _ _ _ (Int.le_refl _) (by have := hok.1; omega)
theorem zwRun_rd {W : ZW} {F F' : Int → Nat → Int} {stop : ZS → Bool} (hok : W.ok) (h : ∀ t b, 0 ≤ b → b < W.nb → ∀ k, rdF W b k → F' t k.toNat = F t k.toNat) : ∀ (c : Nat) (t : Int) (S : ZS), zwRun (fun t S => zwTick W (F' t) t (-1) S) stop c t S = zwRun (fun t S => zwTick W (F t) t (-1) S) stop c t S := by
  intro c
  induction c with
  | zero => intro t S; rfl
  | succ c ih =>
    intro t S
    unfold zwRun
    rw [ih, zwTick_rd (fe := F t) (fe' := F' t) hok (h t)]
/-! a first fault is noted exactly where somebody is dead -/
def FD (S : ZS) : Prop := 0 ≤ S.fi.1 ↔ ∃ j : Nat, j < 6 ∧ S.fa j ≠ 0
theorem zwPut_fi (W : ZW) (b l v : Int) (S : ZS) : (zwPut W b l v S).fi = S.fi := by unfold zwPut; split <;> rfl
theorem zwLand_fi (W : ZW) (b l v : Int) (S : ZS) : (zwLand W b l v S).2.fi = S.fi := by
  unfold zwLand
  split
  · split
    · exact (zwPut_fi _ _ _ _ _).trans rfl
    · rfl
  · exact zwPut_fi _ _ _ _ _
theorem zwB_fi (W : ZW) (C : ZC) (e b l : Int) (S : ZS) : (zwB W C e b l S).2.fi = S.fi := by
  unfold zwB
  split
  · rfl
  · exact zwLand_fi _ _ _ _ _
theorem zwLn_fi (W : ZW) (C : ZC) (e b l : Int) (S : ZS) : (zwLn W C e b l S).2.fi = S.fi := by
  unfold zwLn
  split
  · split
    · rfl
    · split
      · rfl
      · exact zwB_fi _ _ _ _ _ _
  · exact zwB_fi _ _ _ _ _ _
theorem zwTk_ff (W : ZW) (C : ZC) (b : Int) : ∀ (c : Nat) (l p i : Int) (S : ZS), (zwTk W C b c l p i S).2.2.fi = S.fi ∧ (zwTk W C b c l p i S).2.2.fa = S.fa := by
  intro c
  induction c with
  | zero => intro l p i S; exact ⟨rfl, rfl⟩
  | succ c ih =>
    intro l p i S
    by_cases hc : W.ca b l = (if p > 0 then 1 else 0)
    · have e0 : zwTk W C b (c + 1) l p i S = zwTk W C b c (l + 1) (zwLn W C p b l (zwCg b p S)).1 l (zwLn W C p b l (zwCg b p S)).2 := if_pos hc
      have q := ih (l + 1) (zwLn W C p b l (zwCg b p S)).1 l (zwLn W C p b l (zwCg b p S)).2
      have e : (zwCg b p S).fi = S.fi := by unfold zwCg; split <;> rfl
      rw [e0]
      exact ⟨q.1.trans ((zwLn_fi _ _ _ _ _ _).trans e), q.2.trans ((zwLn_fa _ _ _ _ _ _).trans (zwCg_fa _ _ _))⟩
    · have e0 : zwTk W C b (c + 1) l p i S = zwTk W C b c (l + 1) p i S := if_neg hc
      rw [e0]
      exact ih _ _ _ _
theorem zwTk_p0 (W : ZW) (C : ZC) (b : Int) : ∀ (c : Nat) (l p i : Int) (S : ZS), (0 ≤ p) → 0 ≤ (zwTk W C b c l p i S).1 := by
  intro c
  induction c with
  | zero => intro l p i S h; exact h
  | succ c ih =>
    intro l p i S h
    by_cases hc : W.ca b l = (if p > 0 then 1 else 0)
    · have e0 : zwTk W C b (c + 1) l p i S = zwTk W C b c (l + 1) (zwLn W C p b l (zwCg b p S)).1 l (zwLn W C p b l (zwCg b p S)).2 := if_pos hc
      rw [e0]
      exact ih _ _ _ _ (zwLn_r W C p b l _).1
    · have e0 : zwTk W C b (c + 1) l p i S = zwTk W C b c (l + 1) p i S := if_neg hc
      rw [e0]
      exact ih _ _ _ _ h
theorem FD.go {W : ZW} {C : ZC} {r b : Int} {S : ZS} (h : FD S) (hb : 0 ≤ b ∧ b ≤ 5) (ht : 0 ≤ C.t) : FD (zwGo W C r b S) := by
  unfold zwGo
  split
  · have q := zwTk_ff W C b (W.nl b).toNat 0 0 0 S
    unfold zwBx
    split
    · unfold FD
      rw [q.1, q.2]
      exact h
    · next hp =>
      constructor
      · intro _
        exact ⟨b.toNat, by omega, by show zu _ b.toNat _ b.toNat ≠ 0; rw [zu_same]; exact hp⟩
      · intro _
        show 0 ≤ (if (zwTk W C b (W.nl b).toNat 0 0 0 S).2.2.fi.1 < 0 then (C.t, b, _, _) else (zwTk W C b (W.nl b).toNat 0 0 0 S).2.2.fi).1
        split
        · exact ht
        · next g => exact Int.not_lt.mp g
  · exact h
theorem FD.al {W : ZW} {C : ZC} {r : Int} (hn : W.nb ≤ 6) (ht : 0 ≤ C.t) : ∀ (c : Nat) (b : Int) (S : ZS), FD S → 0 ≤ b → b + c = W.nb → FD (zwAl W C r c b S) := by
  intro c
  induction c with
  | zero => intro b S h _ _; exact h
  | succ c ih => intro b S h h0 hc; exact ih _ _ (h.go ⟨h0, by omega⟩ ht) (by omega) (by omega)
theorem FD.tick {W : ZW} {fe : Nat → Int} {t r : Int} {S : ZS} (h : FD S) (hok : W.ok) (ht : 0 ≤ t) : FD (zwTick W fe t r S) := FD.al hok.1.2 ht _ _ _ h (Int.le_refl _) (by have := hok.1; omega)
theorem FD.zero : FD zwZero := by
  constructor
  · intro h; exact absurd h (by decide)
  · rintro ⟨j, -, h⟩; exact absurd rfl h
/-- does somebody die in a flight? -/
def zDie (W : ZW) (F : Int → Nat → Int) (n : Int) : Prop := ∃ j : Nat, j < 6 ∧ (zwFull W F n).fa j ≠ 0
theorem zDie_rd {W : ZW} {F F' : Int → Nat → Int} {n : Int} (hok : W.ok) (h : ∀ t b, 0 ≤ b → b < W.nb → ∀ k, rdF W b k → F' t k.toNat = F t k.toNat) : zDie W F' n ↔ zDie W F n := by
  unfold zDie zwFull
  rw [zwRun_rd hok h]
theorem zDie_fly {W : ZW} {F : Int → Nat → Int} {n : Int} : (∃ j : Nat, j < 6 ∧ (zwFly W F n (-1)).fa j ≠ 0) ↔ zDie W F n := by
  have q := zwFly_dead (W := W) (F := F) (u := -1) n.toNat 0 zwZero
  unfold zDie zwFull zwFly
  rcases q with q | ⟨q, q2⟩
  · rw [q]
  · constructor
    · rintro ⟨j, hj, h⟩
      exact ⟨j, hj, by rw [q2 j h]; exact h⟩
    · intro _
      exact (zwDead_m1 _).mp q

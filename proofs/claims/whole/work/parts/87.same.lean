/-! a sixth digit: the reference refuses it in the number, the class one level up, at the same place -/
def dgt (c : Int → Int) (a : Int) : Prop := 48 ≤ c a ∧ c a ≤ 57
def Rl (c : Int → Int) (a b : PRes) : Prop := a = b ∨ ∃ s, b = .ok s ∧ a = .error s.1 ∧ dgt c s.1
theorem Rl.bind {c : Int → Int} {a b : PRes} (h : Rl c a b) {f g : PSt → PRes} (hfg : ∀ s, Rl c (f s) (g s)) (hs : ∀ s, dgt c s.1 → Rl c (.error s.1) (g s)) : Rl c (pThen a f) (pThen b g) := by
  rcases h with rfl | ⟨s, rfl, rfl, hd⟩
  · cases a with
    | error p => exact Or.inl rfl
    | ok s => exact hfg s
  · exact hs s hd
theorem Rl.stop {c : Int → Int} {s : PSt} (h : dgt c s.1) (w : List (Nat × Int)) : Rl c (.error s.1) (.ok (s.1, w)) := Or.inr ⟨(s.1, w), rfl, rfl, h⟩
theorem pLoop_stop {c : Int → Int} {op : Int → Nat} (ho : ∀ x, 48 ≤ x ∧ x ≤ 57 → op x = 0) (f : PSt → PRes) (x : Nat) {s : PSt} (h : dgt c s.1) : pLoop c op f x s = .ok s := by
  cases x with
  | zero => rfl
  | succ x =>
    show (if op (c s.1) = 0 then (.ok s : PRes) else _) = _
    rw [if_pos (ho _ h)]
theorem pLoop_rl {c : Int → Int} {op : Int → Nat} (ho : ∀ x, 48 ≤ x ∧ x ≤ 57 → op x = 0) {f g : PSt → PRes} (h : ∀ s, Rl c (f s) (g s)) : ∀ (x : Nat) (s : PSt), Rl c (pLoop c op f x s) (pLoop c op g x s) := by
  intro x
  induction x with
  | zero => intro s; exact Or.inl rfl
  | succ x ih =>
    intro s
    simp only [pLoop]
    by_cases h0 : op (c s.1) = 0
    · rw [if_pos h0, if_pos h0]
      exact Or.inl rfl
    · rw [if_neg h0, if_neg h0]
      refine (h _).bind (fun q => ih _) (fun q hq => ?_)
      rw [pLoop_stop ho g x (s := (q.1, q.2 ++ [(op (c s.1), 0)])) hq]
      exact Rl.stop hq _
theorem pLev_rl {c : Int → Int} {op : Int → Nat} (ho : ∀ x, 48 ≤ x ∧ x ≤ 57 → op x = 0) {f g : PSt → PRes} (h : ∀ s, Rl c (f s) (g s)) (s : PSt) : Rl c (pLev c op f s) (pLev c op g s) := by
  refine (h s).bind (pLoop_rl ho h 200) (fun q hq => ?_)
  rw [pLoop_stop ho g 200 hq]
  exact Rl.stop hq q.2
theorem opP_dg : ∀ x, 48 ≤ x ∧ x ≤ 57 → opP x = 0 := fun x h => opP_0 (by omega)
theorem opS_dg : ∀ x, 48 ≤ x ∧ x ≤ 57 → opS x = 0 := fun x h => opS_0 (by omega)
theorem opC_dg : ∀ x, 48 ≤ x ∧ x ≤ 57 → opC x = 0 := fun x h => opC_0 (by omega)
theorem opA_dg : ∀ x, 48 ≤ x ∧ x ≤ 57 → opA x = 0 := fun x h => opA_0 (by omega)
theorem opO_dg : ∀ x, 48 ≤ x ∧ x ≤ 57 → opO x = 0 := fun x h => opO_0 (by omega)
theorem pCmp_rl {c : Int → Int} {f g : PSt → PRes} (h : ∀ s, Rl c (f s) (g s)) (s : PSt) : Rl c (pCmp c f s) (pCmp c g s) := by
  refine (h s).bind (fun q => ?_) (fun q hq => ?_)
  · by_cases h0 : opC (c q.1) = 0
    · rw [if_pos h0, if_pos h0]
      exact Or.inl rfl
    · rw [if_neg h0, if_neg h0]
      exact (h _).bind (fun t => Or.inl rfl) (fun t ht => Rl.stop ht _)
  · rw [if_pos (opC_dg _ hq)]
    exact Rl.stop hq q.2
theorem pEx_rl {c : Int → Int} {f g : PSt → PRes} (h : ∀ s, Rl c (f s) (g s)) (s : PSt) : Rl c (pEx c f s) (pEx c g s) :=
  pLev_rl opO_dg (pLev_rl opA_dg (pCmp_rl (pLev_rl opS_dg (pLev_rl opP_dg h)))) s
theorem pNum_rl (c : Int → Int) (s : PSt) : Rl c (pNum c true s) (pNum c false s) := by
  unfold pNum
  by_cases h0 : (pNumL c 5 s.1 0 0).2.2 = 0
  · rw [if_pos (Or.inl h0), if_pos (Or.inl h0)]
    exact Or.inl rfl
  · rw [if_neg (show ¬ ((pNumL c 5 s.1 0 0).2.2 = 0 ∨ (false = true ∧ _)) by rintro (z | ⟨z, -⟩); exact h0 z; exact absurd z (by decide))]
    by_cases hd : dgt c (pNumL c 5 s.1 0 0).1
    · rw [if_pos (Or.inr ⟨rfl, hd.1, hd.2⟩)]
      exact Or.inr ⟨_, rfl, rfl, hd⟩
    · rw [if_neg (by rintro (z | ⟨-, z⟩); exact h0 z; exact hd z)]
      exact Or.inl rfl
def SubR (c : Int → Int) (a b : Option ((PSt → PRes) × (PSt → PRes))) : Prop := match a, b with
  | none, none => True
  | some f, some g => (∀ s, Rl c (f.1 s) (g.1 s)) ∧ (∀ s, Rl c (f.2 s) (g.2 s))
  | _, _ => False
theorem pOpd_rl {c : Int → Int} {a b : Option ((PSt → PRes) × (PSt → PRes))} (h : SubR c a b) (s : PSt) : Rl c (pOpd c true a s) (pOpd c false b s) := by
  unfold pOpd
  split
  · exact Or.inl rfl
  split
  · exact Or.inl rfl
  split
  · exact Or.inl rfl
  split
  · exact Or.inl rfl
  split
  · exact Or.inl rfl
  split
  · cases a with
    | none =>
      cases b with
      | none => exact Or.inl rfl
      | some g => exact h.elim
    | some f =>
      cases b with
      | none => exact h.elim
      | some g => exact (h.1 _).bind (fun t => Or.inl rfl) (fun t ht => Rl.stop ht _)
  split
  · cases a with
    | none =>
      cases b with
      | none => exact Or.inl rfl
      | some g => exact h.elim
    | some f =>
      cases b with
      | none => exact h.elim
      | some g =>
        refine (h.2 _).bind (fun t => Or.inl rfl) (fun t ht => ?_)
        rw [if_neg (show ¬ c t.1 = 41 from fun z => by unfold dgt at ht; omega)]
        exact Or.inl rfl
  · exact pNum_rl c s
theorem pSub_rl (c : Int → Int) : ∀ k, SubR c (pSub c true k) (pSub c false k) := by
  intro k
  induction k with
  | zero => exact True.intro
  | succ k ih => exact ⟨pOpd_rl ih, pEx_rl (pOpd_rl ih)⟩
theorem pAll_rl (c : Int → Int) (s : PSt) : Rl c (pAll c true s) (pAll c false s) := pEx_rl (pOpd_rl (pSub_rl c 6)) s
theorem pTest_rl (c : Int → Int) (s : PSt) : Rl c (pTest c true s) (pTest c false s) := by
  unfold pTest
  by_cases h : c s.1 = 63
  · rw [if_pos h, if_pos h]
    refine (pAll_rl c _).bind (fun t => Or.inl rfl) (fun t ht => ?_)
    rw [if_neg (show ¬ c t.1 = 58 from fun z => by unfold dgt at ht; omega)]
    exact Or.inl rfl
  · rw [if_neg h, if_neg h]
    exact Or.inl rfl
def RlL (c : Int → Int) (a b : Except Int (PSt × LRec)) : Prop := a = b ∨ ∃ z, b = .ok z ∧ a = .error z.1.1 ∧ dgt c z.1.1
theorem pRest_rl (c : Int → Int) (k b : Int) (s : PSt) : RlL c (pRest c true k b s) (pRest c false k b s) := by
  unfold pRest
  cases pTgt c (s.1 + kxt c s.1 33) with
  | error p => exact Or.inl rfl
  | ok g =>
    dsimp only
    split
    · rcases pAll_rl c (((((s.1 + kxt c s.1 33) + 1) + 1) + 1), s.2) with e | ⟨t, e1, e2, hd⟩
      · rw [e]
        exact Or.inl rfl
      · rw [e1, e2]
        exact Or.inr ⟨_, rfl, rfl, hd⟩
    · exact Or.inl rfl
theorem pLine_rl (c : Int → Int) (s : PSt) : RlL c (pLine c true s) (pLine c false s) := by
  unfold pLine
  rcases pTest_rl c (s.1 + kxt c s.1 107, s.2) with e | ⟨t, e1, e2, hd⟩
  · rw [e]
    cases pTest c false (s.1 + kxt c s.1 107, s.2) with
    | error p => exact Or.inl rfl
    | ok q => exact pRest_rl c _ _ q
  · rw [e1, e2]
    dsimp only
    refine Or.inl ?_
    have hk : kxt c t.1 33 = 0 := if_neg (fun z => by unfold dgt at hd; omega)
    have ht : pTgt c (t.1 + 0) = .error t.1 := by
      rw [Int.add_zero]
      unfold dgt at hd
      unfold pTgt
      rw [if_neg (by omega), if_neg (by omega)]
    unfold pRest
    rw [hk, ht]
theorem prL_rl {c : Int → Int} {n : Int} (hc : ∀ x, n ≤ x → c x < 0) : ∀ (x : Nat) (l : Int) (s : PSt) (rs : List LRec), prL c true n x l s rs = prL c false n x l s rs := by
  intro x
  induction x with
  | zero => intro l s rs; rfl
  | succ x ih =>
    intro l s rs
    simp only [prL]
    by_cases h12 : l = 12
    · rw [if_pos h12, if_pos h12]
    · rw [if_neg h12, if_neg h12]
      rcases pLine_rl c s with e | ⟨z, e1, e2, hd⟩
      · rw [e]
        cases pLine c false s with
        | error p => rfl
        | ok z =>
          dsimp only
          rw [ih]
      · rw [e1, e2]
        dsimp only
        unfold dgt at hd
        have := lt_end (c := c) hc (a := z.1.1) (by omega)
        rw [if_neg (show ¬ c z.1.1 = 59 by omega), if_pos this]
/-- both readers give the same of any text -/
theorem prX_same {c : Int → Int} {n : Int} (hc : ∀ x, n ≤ x → c x < 0) : prX c true n = prX c false n := prL_rl hc 13 0 (0, []) []


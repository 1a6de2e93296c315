/-! how a text is read, with a byte function c (below 0: none there); n bytes lie on the tape -/
abbrev PSt : Type := Int × List (Nat × Int)
abbrev PRes : Type := Except Int PSt
def pDig (x : Int) : Prop := 48 ≤ x ∧ x ≤ 57
def pNumL (c : Int → Int) : Nat → Int → Int → Int → Int × Int × Int
  | 0, a, v, n => (a, v, n)
  | x + 1, a, v, n => if 48 ≤ c a ∧ c a ≤ 57 then pNumL c x (a + 1) (((10 * v) + c a) - 48) (n + 1) else (a, v, n)
def pNum (c : Int → Int) (six : Bool) (s : PSt) : PRes :=
  if (pNumL c 5 s.1 0 0).2.2 = 0 ∨ (six = true ∧ 48 ≤ c (pNumL c 5 s.1 0 0).1 ∧ c (pNumL c 5 s.1 0 0).1 ≤ 57) then .error (pNumL c 5 s.1 0 0).1
  else .ok ((pNumL c 5 s.1 0 0).1, s.2 ++ [(0, (pNumL c 5 s.1 0 0).2.1)])
def pIdx (c : Int → Int) (what : Nat) (most : Int) (s : PSt) : PRes :=
  if 48 ≤ c (s.1 + 1) ∧ c (s.1 + 1) ≤ 48 + most then .ok ((s.1 + 1) + 1, s.2 ++ [(what, c (s.1 + 1) - 48)]) else .error (s.1 + 1)
def pThen (r : PRes) (f : PSt → PRes) : PRes := match r with
  | .error p => .error p
  | .ok s => f s
def pOpd (c : Int → Int) (six : Bool) (sub : Option ((PSt → PRes) × (PSt → PRes))) (s : PSt) : PRes :=
  if c s.1 = 114 then pIdx c 1 7 s
  else if c s.1 = 105 then pIdx c 2 3 s
  else if c s.1 = 102 then pIdx c 3 2 s
  else if c s.1 = 116 then .ok (s.1 + 1, s.2 ++ [(4, 0)])
  else if c s.1 = 101 then .ok (s.1 + 1, s.2 ++ [(5, 0)])
  else if c s.1 = 45 then (match sub with
    | none => .error s.1
    | some g => pThen (g.1 (s.1 + 1, s.2)) (fun q => .ok (q.1, q.2 ++ [(6, 0)])))
  else if c s.1 = 40 then (match sub with
    | none => .error s.1
    | some g => pThen (g.2 (s.1 + 1, s.2)) (fun q => if c q.1 = 41 then .ok (q.1 + 1, q.2) else .error q.1))
  else pNum c six s
def opP (x : Int) : Nat := if x = 42 then 14 else if x = 47 then 15 else if x = 37 then 16 else 0
def opS (x : Int) : Nat := if x = 43 then 12 else if x = 45 then 13 else 0
def opC (x : Int) : Nat := if x = 60 then 9 else if x = 61 then 10 else if x = 62 then 11 else 0
def opA (x : Int) : Nat := if x = 38 then 8 else 0
def opO (x : Int) : Nat := if x = 124 then 7 else 0
def pLoop (c : Int → Int) (op : Int → Nat) (f : PSt → PRes) : Nat → PSt → PRes
  | 0, s => .ok s
  | x + 1, s => if op (c s.1) = 0 then .ok s else pThen (f (s.1 + 1, s.2)) (fun q => pLoop c op f x (q.1, q.2 ++ [(op (c s.1), 0)]))
def pLev (c : Int → Int) (op : Int → Nat) (f : PSt → PRes) (s : PSt) : PRes := pThen (f s) (pLoop c op f 200)
def pCmp (c : Int → Int) (f : PSt → PRes) (s : PSt) : PRes :=
  pThen (f s) (fun q => if opC (c q.1) = 0 then .ok q else pThen (f (q.1 + 1, q.2)) (fun t => .ok (t.1, t.2 ++ [(opC (c q.1), 0)])))
def pSum (c : Int → Int) (g : PSt → PRes) : PSt → PRes := pLev c opS (pLev c opP g)
def pEx (c : Int → Int) (g : PSt → PRes) : PSt → PRes := pLev c opO (pLev c opA (pCmp c (pSum c g)))
/-- what stands below so many open ones: an operand, and a whole part -/
def pSub (c : Int → Int) (six : Bool) : Nat → Option ((PSt → PRes) × (PSt → PRes))
  | 0 => none
  | k + 1 => some (pOpd c six (pSub c six k), pEx c (pOpd c six (pSub c six k)))
/-- how high the pile is behind words -/
def hgt : List (Nat × Int) → Int → Option Int
  | [], n => some n
  | (w, v) :: t, n =>
    if w < 6 then (if (w = 0 → 0 ≤ v ∧ v ≤ 99999) ∧ (w = 1 → 0 ≤ v ∧ v ≤ 7) ∧ (w = 2 → 0 ≤ v ∧ v ≤ 3) ∧ (w = 3 → 0 ≤ v ∧ v ≤ 2) then hgt t (n + 1) else none)
    else if w = 6 then (if 1 ≤ n then hgt t n else none)
    else if w ≤ 16 then (if 2 ≤ n then hgt t (n - 1) else none) else none
theorem hgt_app (a b : List (Nat × Int)) : ∀ n, hgt (a ++ b) n = (hgt a n).bind (hgt b) := by
  induction a with
  | nil => intro n; rfl
  | cons q t ih =>
    intro n
    obtain ⟨w, v⟩ := q
    simp only [List.cons_append, hgt]
    repeat' split
    all_goals first | exact ih _ | rfl
/-- a part of a text: its end, what it gives -/
def pGood (c : Int → Int) (N : Int) (f : PSt → PRes) : Prop := ∀ a out, 0 ≤ a → a ≤ N →
  (∀ r, f (a, out) = .ok r → a < r.1 ∧ r.1 ≤ N ∧ ∃ w : List (Nat × Int), r.2 = out ++ w ∧ (w.length : Int) ≤ r.1 - a ∧ 1 ≤ w.length ∧ ∀ n, 0 ≤ n → hgt w n = some (n + 1)) ∧
  (∀ p, f (a, out) = .error p → a ≤ p ∧ p ≤ N)
theorem pNumL_r {c : Int → Int} {N : Int} (hc : ∀ x, N ≤ x → c x < 0) : ∀ (x : Nat) (a v n : Int), a ≤ N → a ≤ (pNumL c x a v n).1 ∧ (pNumL c x a v n).1 ≤ N ∧ (pNumL c x a v n).2.2 = n + ((pNumL c x a v n).1 - a) := by
  intro x
  induction x with
  | zero => intro a v n h; exact ⟨Int.le_refl _, h, by show n = n + (a - a); omega⟩
  | succ x ih =>
    intro a v n h
    unfold pNumL
    split
    · next q =>
      have h1 : a < N := by
        refine Int.not_le.mp (fun z => ?_)
        have := hc a z
        omega
      have := ih (a + 1) (((10 * v) + c a) - 48) (n + 1) (by omega)
      omega
    · exact ⟨Int.le_refl _, h, by show n = n + (a - a); omega⟩
theorem pNumL_v {c : Int → Int} : ∀ (x : Nat) (a v n b : Int), 0 ≤ v → v < b → 0 ≤ (pNumL c x a v n).2.1 ∧ (pNumL c x a v n).2.1 < b * 10 ^ x := by
  intro x
  induction x with
  | zero => intro a v n b h h2; exact ⟨h, by show v < b * 10 ^ 0; omega⟩
  | succ x ih =>
    intro a v n b h h2
    unfold pNumL
    split
    · have g := ih (a + 1) (((10 * v) + c a) - 48) (n + 1) (b * 10) (by omega) (by omega)
      rw [Int.pow_succ, Int.mul_comm (10 ^ x) 10, ← Int.mul_assoc]
      exact g
    · refine ⟨h, ?_⟩
      have h3 : (1 : Int) ≤ 10 ^ (x + 1) := Int.pow_pos (by decide)
      have h4 : b * 1 ≤ b * 10 ^ (x + 1) := Int.mul_le_mul_of_nonneg_left h3 (by omega)
      show v < b * 10 ^ (x + 1)
      omega
theorem pNum_good {c : Int → Int} {N : Int} (hc : ∀ x, N ≤ x → c x < 0) (six : Bool) : pGood c N (pNum c six) := by
  intro a out h0 hN
  have r := pNumL_r hc 5 a 0 0 hN
  have v := pNumL_v (c := c) 5 a 0 0 1 (by decide) (by decide)
  unfold pNum
  dsimp only
  split
  · exact ⟨fun q e => by simp at e, fun p e => by simp at e; omega⟩
  · next hz =>
    refine ⟨fun q e => ?_, fun p e => by simp at e⟩
    simp only [Except.ok.injEq] at e
    subst e
    refine ⟨by dsimp only; omega, r.2.1, [(0, (pNumL c 5 a 0 0).2.1)], rfl, by show (1 : Int) ≤ _; omega, Nat.le_refl _, fun n hn => ?_⟩
    simp only [hgt]
    rw [if_pos (by decide), if_pos ⟨fun _ => by omega, fun q => absurd q (by decide), fun q => absurd q (by decide), fun q => absurd q (by decide)⟩]
theorem pIdx_good {c : Int → Int} {N : Int} (hc : ∀ x, N ≤ x → c x < 0) {what : Nat} {most : Int} (hw : (what = 1 ∧ most = 7) ∨ (what = 2 ∧ most = 3) ∨ (what = 3 ∧ most = 2)) {a : Int} (h : a < N) (h0 : 0 ≤ a) (out : List (Nat × Int)) :
    (∀ r, pIdx c what most (a, out) = .ok r → a < r.1 ∧ r.1 ≤ N ∧ ∃ w : List (Nat × Int), r.2 = out ++ w ∧ (w.length : Int) ≤ r.1 - a ∧ 1 ≤ w.length ∧ ∀ n, 0 ≤ n → hgt w n = some (n + 1)) ∧
    (∀ p, pIdx c what most (a, out) = .error p → a ≤ p ∧ p ≤ N) := by
  unfold pIdx
  dsimp only
  split
  · next q =>
    have h1 : a + 1 < N := by
      refine Int.not_le.mp (fun z => ?_)
      have := hc (a + 1) z
      omega
    refine ⟨fun r e => ?_, fun p e => by simp at e⟩
    simp only [Except.ok.injEq] at e
    subst e
    refine ⟨by dsimp only; omega, by dsimp only; omega, [(what, c (a + 1) - 48)], rfl, by show (1 : Int) ≤ _; dsimp only; omega, Nat.le_refl _, fun n hn => ?_⟩
    simp only [hgt]
    rw [if_pos (by omega), if_pos (by omega)]
  · exact ⟨fun q e => by simp at e, fun p e => by simp at e; omega⟩
theorem pThen_ok {r : PRes} {f : PSt → PRes} {q : PSt} (h : pThen r f = .ok q) : ∃ s, r = .ok s ∧ f s = .ok q := by
  cases r with
  | error p => simp [pThen] at h
  | ok s => exact ⟨s, rfl, h⟩
theorem pThen_er {r : PRes} {f : PSt → PRes} {p : Int} (h : pThen r f = .error p) : r = .error p ∨ ∃ s, r = .ok s ∧ f s = .error p := by
  cases r with
  | error q => exact Or.inl (by simpa [pThen] using h)
  | ok s => exact Or.inr ⟨s, rfl, h⟩
theorem lt_end {c : Int → Int} {N : Int} (hc : ∀ x, N ≤ x → c x < 0) {a : Int} (h : 0 ≤ c a) : a < N := Int.not_le.mp (fun z => by have := hc a z; omega)
theorem pOpd_good {c : Int → Int} {N : Int} (hc : ∀ x, N ≤ x → c x < 0) (six : Bool) (sub : Option ((PSt → PRes) × (PSt → PRes))) (hs : ∀ g, sub = some g → pGood c N g.1 ∧ pGood c N g.2) : pGood c N (pOpd c six sub) := by
  intro a out h0 hN
  have one : ∀ w : Nat, (w = 4 ∨ w = 5) → 0 ≤ c a → (∀ r : PSt, (Except.ok (a + 1, out ++ [(w, (0 : Int))]) : PRes) = .ok r → a < r.1 ∧ r.1 ≤ N ∧ ∃ w : List (Nat × Int), r.2 = out ++ w ∧ (w.length : Int) ≤ r.1 - a ∧ 1 ≤ w.length ∧ ∀ n, 0 ≤ n → hgt w n = some (n + 1)) ∧ (∀ p, (Except.ok (a + 1, out ++ [(w, (0 : Int))]) : PRes) = .error p → a ≤ p ∧ p ≤ N) := by
    intro w hw h
    have h1 := lt_end hc h
    refine ⟨fun r e => ?_, fun p e => by simp at e⟩
    simp only [Except.ok.injEq] at e
    subst e
    refine ⟨by dsimp only; omega, by dsimp only; omega, [(w, 0)], rfl, by show (1 : Int) ≤ _; dsimp only; omega, Nat.le_refl _, fun n hn => ?_⟩
    simp only [hgt]
    rw [if_pos (by omega), if_pos ⟨fun q => by omega, fun q => by omega, fun q => by omega, fun q => by omega⟩]
  unfold pOpd
  dsimp only
  split
  · next q => exact pIdx_good hc (Or.inl ⟨rfl, rfl⟩) (lt_end hc (by omega)) h0 out
  split
  · next q => exact pIdx_good hc (Or.inr (Or.inl ⟨rfl, rfl⟩)) (lt_end hc (by omega)) h0 out
  split
  · next q => exact pIdx_good hc (Or.inr (Or.inr ⟨rfl, rfl⟩)) (lt_end hc (by omega)) h0 out
  split
  · next q => exact one 4 (Or.inl rfl) (by omega)
  split
  · next q => exact one 5 (Or.inr rfl) (by omega)
  split
  · next q =>
    cases sub with
    | none => exact ⟨fun r e => by simp at e, fun p e => by simp at e; omega⟩
    | some g =>
      have h1 := lt_end hc (a := a) (by omega)
      have G := (hs g rfl).1 (a + 1) out (by omega) (by omega)
      refine ⟨fun r e => ?_, fun p e => ?_⟩
      · obtain ⟨s, e1, e2⟩ := pThen_ok e
        obtain ⟨g1, g2, w, g3, g4, g5, g6⟩ := G.1 s e1
        simp only [Except.ok.injEq] at e2
        subst e2
        refine ⟨by dsimp only; omega, g2, w ++ [(6, 0)], by dsimp only; rw [g3, List.append_assoc], by rw [List.length_append]; show ((w.length + 1 : Nat) : Int) ≤ _; dsimp only; omega, by rw [List.length_append]; omega, fun n hn => ?_⟩
        rw [hgt_app, g6 n hn]
        simp only [Option.bind, hgt]
        rw [if_neg (by decide), if_pos trivial, if_pos (by omega)]
      · rcases pThen_er e with e1 | ⟨s, e1, e2⟩
        · have := G.2 p e1; omega
        · simp at e2
  split
  · next q =>
    cases sub with
    | none => exact ⟨fun r e => by simp at e, fun p e => by simp at e; omega⟩
    | some g =>
      have h1 := lt_end hc (a := a) (by omega)
      have G := (hs g rfl).2 (a + 1) out (by omega) (by omega)
      refine ⟨fun r e => ?_, fun p e => ?_⟩
      · obtain ⟨s, e1, e2⟩ := pThen_ok e
        obtain ⟨g1, g2, w, g3, g4, g5, g6⟩ := G.1 s e1
        skip
        split at e2
        · next q2 =>
          have h2 := lt_end hc (a := s.1) (by omega)
          simp only [Except.ok.injEq] at e2
          subst e2
          exact ⟨by dsimp only; omega, by dsimp only; omega, w, g3, by dsimp only; omega, g5, g6⟩
        · simp at e2
      · rcases pThen_er e with e1 | ⟨s, e1, e2⟩
        · have := G.2 p e1; omega
        · have g := (G.1 s e1)
          skip
          split at e2
          · simp at e2
          · simp at e2; omega
  · exact pNum_good hc six a out h0 hN
/-- what a part gives behind another one: two words joined by one more -/
theorem join_good {out w1 w2 : List (Nat × Int)} {a b d N : Int} {op : Nat} (hop : 7 ≤ op ∧ op ≤ 16) (h1 : (w1.length : Int) ≤ b - a) (h1' : 1 ≤ w1.length) (g1 : ∀ n, 0 ≤ n → hgt w1 n = some (n + 1)) (h2 : (w2.length : Int) ≤ d - (b + 1)) (g2 : ∀ n, 0 ≤ n → hgt w2 n = some (n + 1)) :
    (((w1 ++ (w2 ++ [(op, (0 : Int))])).length : Nat) : Int) ≤ d - a ∧ 1 ≤ (w1 ++ (w2 ++ [(op, (0 : Int))])).length ∧ ∀ n, 0 ≤ n → hgt (w1 ++ (w2 ++ [(op, (0 : Int))])) n = some (n + 1) := by
  have e : (w1 ++ (w2 ++ [(op, (0 : Int))])).length = w1.length + (w2.length + 1) := by
    rw [List.length_append, List.length_append]; rfl
  refine ⟨by rw [e]; omega, by rw [e]; omega, fun n hn => ?_⟩
  rw [hgt_app, g1 n hn]
  show hgt (w2 ++ [(op, (0 : Int))]) (n + 1) = _
  rw [hgt_app, g2 (n + 1) (by omega)]
  show hgt [(op, (0 : Int))] (n + 1 + 1) = _
  simp only [hgt]
  rw [if_neg (by omega), if_neg (by omega), if_pos (by omega), if_pos (by omega)]
  congr 1
  omega
theorem pLoop_good {c : Int → Int} {N : Int} (hc : ∀ x, N ≤ x → c x < 0) {op : Int → Nat} (ho : ∀ x, op x ≠ 0 → 0 ≤ x ∧ 7 ≤ op x ∧ op x ≤ 16) {f : PSt → PRes} (hf : pGood c N f) {a : Int} {out : List (Nat × Int)} (h0 : 0 ≤ a) : ∀ (x : Nat) (b : Int) (w : List (Nat × Int)), a < b → b ≤ N → (w.length : Int) ≤ b - a → 1 ≤ w.length → (∀ n, 0 ≤ n → hgt w n = some (n + 1)) →
    (∀ r, pLoop c op f x (b, out ++ w) = .ok r → a < r.1 ∧ r.1 ≤ N ∧ ∃ w : List (Nat × Int), r.2 = out ++ w ∧ (w.length : Int) ≤ r.1 - a ∧ 1 ≤ w.length ∧ ∀ n, 0 ≤ n → hgt w n = some (n + 1)) ∧
    (∀ p, pLoop c op f x (b, out ++ w) = .error p → a ≤ p ∧ p ≤ N) := by
  intro x
  induction x with
  | zero =>
    intro b w hb hN h1 h2 h3
    refine ⟨fun r e => ?_, fun p e => by simp [pLoop] at e⟩
    simp only [pLoop, Except.ok.injEq] at e
    subst e
    exact ⟨hb, hN, w, rfl, h1, h2, h3⟩
  | succ x ih =>
    intro b w hb hN h1 h2 h3
    simp only [pLoop]
    split
    · refine ⟨fun r e => ?_, fun p e => by simp at e⟩
      simp only [Except.ok.injEq] at e
      subst e
      exact ⟨hb, hN, w, rfl, h1, h2, h3⟩
    · next q =>
      have ho1 := ho _ q
      have hl := lt_end hc ho1.1
      have G := hf (b + 1) (out ++ w) (by omega) (by omega)
      have key : ∀ s, f (b + 1, out ++ w) = .ok s → (∀ r, pLoop c op f x (s.1, s.2 ++ [(op (c b), 0)]) = .ok r → a < r.1 ∧ r.1 ≤ N ∧ ∃ w : List (Nat × Int), r.2 = out ++ w ∧ (w.length : Int) ≤ r.1 - a ∧ 1 ≤ w.length ∧ ∀ n, 0 ≤ n → hgt w n = some (n + 1)) ∧ (∀ p, pLoop c op f x (s.1, s.2 ++ [(op (c b), 0)]) = .error p → a ≤ p ∧ p ≤ N) := by
        intro s e1
        obtain ⟨g1, g2, w2, g3, g4, g5, g6⟩ := G.1 s e1
        have J := join_good (out := out) (N := N) (op := op (c b)) ho1.2 h1 h2 h3 g4 g6
        have := ih s.1 (w ++ (w2 ++ [(op (c b), 0)])) (by omega) g2 J.1 J.2.1 J.2.2
        rw [g3, List.append_assoc, List.append_assoc]
        exact this
      refine ⟨fun r e => ?_, fun p e => ?_⟩
      · obtain ⟨s, e1, e2⟩ := pThen_ok e
        exact (key s e1).1 r e2
      · rcases pThen_er e with e1 | ⟨s, e1, e2⟩
        · have := G.2 p e1; omega
        · exact (key s e1).2 p e2
theorem pLev_good {c : Int → Int} {N : Int} (hc : ∀ x, N ≤ x → c x < 0) {op : Int → Nat} (ho : ∀ x, op x ≠ 0 → 0 ≤ x ∧ 7 ≤ op x ∧ op x ≤ 16) {f : PSt → PRes} (hf : pGood c N f) : pGood c N (pLev c op f) := by
  intro a out h0 hN
  have G := hf a out h0 hN
  have key : ∀ s, f (a, out) = .ok s → (∀ r, pLoop c op f 200 s = .ok r → a < r.1 ∧ r.1 ≤ N ∧ ∃ w : List (Nat × Int), r.2 = out ++ w ∧ (w.length : Int) ≤ r.1 - a ∧ 1 ≤ w.length ∧ ∀ n, 0 ≤ n → hgt w n = some (n + 1)) ∧ (∀ p, pLoop c op f 200 s = .error p → a ≤ p ∧ p ≤ N) := by
    intro s e1
    obtain ⟨g1, g2, w2, g3, g4, g5, g6⟩ := G.1 s e1
    have := pLoop_good hc ho hf (out := out) h0 200 s.1 w2 g1 g2 g4 g5 g6
    rw [← g3] at this
    exact this
  refine ⟨fun r e => ?_, fun p e => ?_⟩
  · obtain ⟨s, e1, e2⟩ := pThen_ok e
    exact (key s e1).1 r e2
  · rcases pThen_er e with e1 | ⟨s, e1, e2⟩
    · exact G.2 p e1
    · exact (key s e1).2 p e2
theorem pCmp_good {c : Int → Int} {N : Int} (hc : ∀ x, N ≤ x → c x < 0) {f : PSt → PRes} (hf : pGood c N f) : pGood c N (pCmp c f) := by
  intro a out h0 hN
  have ho : ∀ x, opC x ≠ 0 → 0 ≤ x ∧ 7 ≤ opC x ∧ opC x ≤ 16 := by
    intro x h
    unfold opC at h ⊢
    repeat' split
    all_goals first | omega | (exfalso; simp_all)
  have G := hf a out h0 hN
  have key : ∀ s, f (a, out) = .ok s → (∀ r, (if opC (c s.1) = 0 then (Except.ok s : PRes) else pThen (f (s.1 + 1, s.2)) (fun t => .ok (t.1, t.2 ++ [(opC (c s.1), 0)]))) = .ok r → a < r.1 ∧ r.1 ≤ N ∧ ∃ w : List (Nat × Int), r.2 = out ++ w ∧ (w.length : Int) ≤ r.1 - a ∧ 1 ≤ w.length ∧ ∀ n, 0 ≤ n → hgt w n = some (n + 1)) ∧ (∀ p, (if opC (c s.1) = 0 then (Except.ok s : PRes) else pThen (f (s.1 + 1, s.2)) (fun t => .ok (t.1, t.2 ++ [(opC (c s.1), 0)]))) = .error p → a ≤ p ∧ p ≤ N) := by
    intro s e1
    obtain ⟨g1, g2, w, g3, g4, g5, g6⟩ := G.1 s e1
    split
    · refine ⟨fun r e => ?_, fun p e => by simp at e⟩
      simp only [Except.ok.injEq] at e
      subst e
      exact ⟨g1, g2, w, g3, g4, g5, g6⟩
    · next q =>
      have ho1 := ho _ q
      have hl := lt_end hc ho1.1
      have G2 := hf (s.1 + 1) s.2 (by omega) (by omega)
      refine ⟨fun r e => ?_, fun p e => ?_⟩
      · obtain ⟨t, e2, e3⟩ := pThen_ok e
        obtain ⟨k1, k2, w2, k3, k4, k5, k6⟩ := G2.1 t e2
        simp only [Except.ok.injEq] at e3
        subst e3
        have J := join_good (out := out) (N := N) (op := opC (c s.1)) ho1.2 g4 g5 g6 k4 k6
        refine ⟨by dsimp only; omega, k2, w ++ (w2 ++ [(opC (c s.1), 0)]), ?_, J⟩
        dsimp only
        rw [k3, g3, List.append_assoc, List.append_assoc]
      · rcases pThen_er e with e2 | ⟨t, e2, e3⟩
        · have := G2.2 p e2; omega
        · simp at e3
  unfold pCmp
  refine ⟨fun r e => ?_, fun p e => ?_⟩
  · obtain ⟨s, e1, e2⟩ := pThen_ok e
    exact (key s e1).1 r e2
  · rcases pThen_er e with e1 | ⟨s, e1, e2⟩
    · exact G.2 p e1
    · exact (key s e1).2 p e2
theorem opP_r (x : Int) (h : opP x ≠ 0) : 0 ≤ x ∧ 7 ≤ opP x ∧ opP x ≤ 16 := by
  unfold opP at h ⊢
  repeat' split
  all_goals first | omega | (exfalso; simp_all)
theorem opS_r (x : Int) (h : opS x ≠ 0) : 0 ≤ x ∧ 7 ≤ opS x ∧ opS x ≤ 16 := by
  unfold opS at h ⊢
  repeat' split
  all_goals first | omega | (exfalso; simp_all)
theorem opA_r (x : Int) (h : opA x ≠ 0) : 0 ≤ x ∧ 7 ≤ opA x ∧ opA x ≤ 16 := by
  unfold opA at h ⊢
  repeat' split
  all_goals first | omega | (exfalso; simp_all)
theorem opO_r (x : Int) (h : opO x ≠ 0) : 0 ≤ x ∧ 7 ≤ opO x ∧ opO x ≤ 16 := by
  unfold opO at h ⊢
  repeat' split
  all_goals first | omega | (exfalso; simp_all)
theorem pSum_good {c : Int → Int} {N : Int} (hc : ∀ x, N ≤ x → c x < 0) {g : PSt → PRes} (hg : pGood c N g) : pGood c N (pSum c g) := pLev_good hc opS_r (pLev_good hc opP_r hg)
theorem pEx_good {c : Int → Int} {N : Int} (hc : ∀ x, N ≤ x → c x < 0) {g : PSt → PRes} (hg : pGood c N g) : pGood c N (pEx c g) := pLev_good hc opO_r (pLev_good hc opA_r (pCmp_good hc (pSum_good hc hg)))
theorem pSub_good {c : Int → Int} {N : Int} (hc : ∀ x, N ≤ x → c x < 0) (six : Bool) : ∀ k g, pSub c six k = some g → pGood c N g.1 ∧ pGood c N g.2 := by
  intro k
  induction k with
  | zero => intro g h; simp [pSub] at h
  | succ k ih =>
    intro g h
    simp only [pSub, Option.some.injEq] at h
    subst h
    have h1 := pOpd_good hc six (pSub c six k) ih
    exact ⟨h1, pEx_good hc h1⟩

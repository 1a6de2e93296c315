set_option maxRecDepth 20000 in
set_option maxHeartbeats 8000000 in
theorem lp_program_227 {G : QW} {R : Room} {F : QFin} {cc cs : Nat} {m : AM} {b : Int} (hS : St m) (hb0 : 0 ≤ b) (hb5 : b ≤ 5) (h20 : 0 ≤ mi m 86 20 ∧ mi m 86 20 ≤ 160) (hb98 : ∀ j : Nat, 0 ≤ mi m 98 j ∧ mi m 98 j ≤ 124) (hexit : qJ G mX12_program R F 285 [(0, vR 86), (1, vI b)] [] (mvr (mvr m 98 (170 * b) 1020 (mi m 86 20)) 99 (170 * b) 1020 (mi m 86 20)) cc cs) : ∀ (x : Nat) (s : Int), s + x = mi m 86 20 → 0 ≤ s → qJ G mX12_program R F 227 [(0, vR 86), (1, vI b), (2, vI s)] [] (mvr (mvr m 98 (170 * b) 1020 s) 99 (170 * b) 1020 s) cc cs := by
  intro x
  induction x with
  | zero =>
    intro s hx hs0
    refine j_iload_n rfl rfl ?_
    refine j_aload_n rfl rfl ?_
    refine j_getI rfl f_X12_216 rfl (hS.lt (by decide)) (hS.k (by decide) (by decide)) ?_
    rw [show mi (mvr (mvr m 98 (170 * b) 1020 s) 99 (170 * b) 1020 s) 86 20 = mi m 86 20 from by simp [mi_si, mi_mvr]]
    have u229_1 := mi_rng m 86 20
    refine j_icmp_ge (tgt := 285) rfl (by decide) (by omega) (by omega) (by omega) (by omega) (fun hb232_1 => ?_) (fun hb232_1 => ?_)
    · skip
      obtain rfl : s = mi m 86 20 := by omega
      refine j_loc (ls' := [(0, vR 86), (1, vI b)]) rfl ?_
      exact hexit
    · skip
      exfalso; omega
  | succ x ih =>
    intro s hx hs0
    refine j_iload_n rfl rfl ?_
    refine j_aload_n rfl rfl ?_
    refine j_getI rfl f_X12_216 rfl (hS.lt (by decide)) (hS.k (by decide) (by decide)) ?_
    rw [show mi (mvr (mvr m 98 (170 * b) 1020 s) 99 (170 * b) 1020 s) 86 20 = mi m 86 20 from by simp [mi_si, mi_mvr]]
    have u229_1 := mi_rng m 86 20
    refine j_icmp_ge (tgt := 285) rfl (by decide) (by omega) (by omega) (by omega) (by omega) (fun hb232_1 => ?_) (fun hb232_1 => ?_)
    · skip
      exfalso; omega
    · skip
      refine j_aload_n rfl rfl ?_
      refine j_getR (q := 98) rfl f_X12_44 rfl (hS.lt (by decide)) (hS.k (by decide) (by decide)) (hS.r (by decide)) ?_
      refine j_sipush rfl (by decide) ?_
      refine j_iload_n rfl rfl ?_
      refine j_imul rfl ?_
      refine j_iload_n rfl rfl ?_
      refine j_iadd rfl ?_
      refine j_aload_n rfl rfl ?_
      refine j_getR (q := 98) rfl f_X12_44 rfl (hS.lt (by decide)) (hS.k (by decide) (by decide)) (hS.r (by decide)) ?_
      refine j_sipush rfl (by decide) ?_
      refine j_iload_n rfl rfl ?_
      refine j_iadd rfl ?_
      refine j_bald (n := 1190) rfl (hS.lt (by decide)) (hS.k (by decide) (by decide)) (hS.n (by decide) (by decide)) (by omega) (by omega) (by decide) ?_
      rw [show mi (mvr (mvr m 98 (170 * b) 1020 s) 99 (170 * b) 1020 s) 98 (1020 + s).toNat = mi m 98 (1020 + s).toNat from by simp [mi_si, mi_mvr] <;> omega]
      have u255_1 := hb98 (1020 + s).toNat
      refine j_bast (n := 1190) rfl (hS.lt (by decide)) (hS.k (by decide) (by decide)) (hS.n (by decide) (by decide)) (by omega) (by omega) (by first | decide | omega) ?_
      refine j_aload_n rfl rfl ?_
      refine j_getR (q := 99) rfl f_X12_48 rfl (hS.lt (by decide)) (hS.k (by decide) (by decide)) (hS.r (by decide)) ?_
      refine j_sipush rfl (by decide) ?_
      refine j_iload_n rfl rfl ?_
      refine j_imul rfl ?_
      refine j_iload_n rfl rfl ?_
      refine j_iadd rfl ?_
      refine j_aload_n rfl rfl ?_
      refine j_getR (q := 99) rfl f_X12_48 rfl (hS.lt (by decide)) (hS.k (by decide) (by decide)) (hS.r (by decide)) ?_
      refine j_sipush rfl (by decide) ?_
      refine j_iload_n rfl rfl ?_
      refine j_iadd rfl ?_
      refine j_iald (n := 1190) rfl (hS.lt (by decide)) (hS.k (by decide) (by decide)) (hS.n (by decide) (by decide)) (by omega) (by omega) (by decide) ?_
      rw [show mi (si (mvr (mvr m 98 (170 * b) 1020 s) 99 (170 * b) 1020 s) 98 ((170 * b) + s).toNat (z_i2b (mi m 98 (1020 + s).toNat))) 99 (1020 + s).toNat = mi m 99 (1020 + s).toNat from by simp [mi_si, mi_mvr] <;> omega]
      have u277_1 := mi_rng m 99 (1020 + s).toNat
      refine j_iast (n := 1190) rfl (hS.lt (by decide)) (hS.k (by decide) (by decide)) (hS.n (by decide) (by decide)) (by omega) (by omega) (by first | decide | omega) ?_
      refine j_iinc rfl rfl (by decide) ?_
      refine j_goto (tgt := 227) rfl (by decide) ?_
      rw [z_i2b_of (by have := hb98 (1020 + s).toNat; omega)]
      refine j_loc (ls' := [(0, vR 86), (1, vI b), (2, vI (s + 1))]) rfl ?_
      rw [si_mvr (o := 98) (o1 := 99) (by decide), mvr_si (m := m) (o := 98) (d := 170 * b) (s := 1020) (e := s) (v := mi m 98 (1020 + s).toNat) (by omega) (by omega) rfl rfl, mvr_si (m := (mvr m 98 (170 * b) 1020 (s + 1))) (o := 99) (d := 170 * b) (s := 1020) (e := s) (v := mi m 99 (1020 + s).toNat) (by omega) (by omega) rfl (by simp [mi_mvr])]
      exact ih (s + 1) (by omega) (by omega)

/-- what reading a whole text leaves as it was -/
def FG (m N : AM) : Prop := N.2 = m.2 ∧ ∀ o j : Nat, ¬ ((o = 98 ∨ o = 99) ∧ 1020 ≤ j) → ¬ (o = 86 ∧ 17 ≤ j ∧ j ≤ 20) → ¬ ((92 ≤ o ∧ o ≤ 97) ∧ 72 ≤ j) → ¬ (o = 91 ∧ j = 6) → N.1 o j = m.1 o j
theorem FG.fl {m M N : AM} (h : FG m M) {l : Int} (hl : 0 ≤ l) (h2 : FL l M N) : FG m N := ⟨h2.1.trans h.1, fun o j a b c d => (h2.2 o j a b (fun q => c ⟨q.1, by omega⟩) d).trans (h.2 o j a b c d)⟩
theorem FG.fp {m M N : AM} (h : FG m M) (h2 : FP M N) : FG m N := ⟨h2.1.trans h.1, fun o j a b c d => (h2.2 o j a b).trans (h.2 o j a b c d)⟩
theorem FG.cell {m N : AM} (h : FG m N) {o j : Nat} (h1 : ¬ ((o = 98 ∨ o = 99) ∧ 1020 ≤ j)) (h2 : ¬ (o = 86 ∧ 17 ≤ j ∧ j ≤ 20)) (h3 : ¬ ((92 ≤ o ∧ o ≤ 97) ∧ 72 ≤ j)) (h4 : ¬ (o = 91 ∧ j = 6)) : mi N o j = mi m o j := by
  show (zi (N.1 o j)).toInt = (zi (m.1 o j)).toInt
  rw [h.2 o j h1 h2 h3 h4]
theorem FG.ch {m N : AM} (h : FG m N) : chR N = chR m := by
  funext x
  unfold chR
  rw [h.cell (by omega) (by omega) (by omega) (by omega), h.cell (by omega) (by omega) (by omega) (by omega)]
theorem FG.st {m N : AM} (h : FG m N) (hS : St m) : St N := hS.sub (by rw [h.1])
def RecAt (N : AM) (i : Int) (r : LRec) : Prop := Rows N i r.1 r.2.1 r.2.2.1 r.2.2.2.1 r.2.2.2.2.1 ∧ mi N 97 (72 + i).toNat = r.2.2.2.2.2
def RowsAll (N : AM) (rs : List LRec) : Prop := ∀ i : Nat, i < rs.length → RecAt N i (rs.getD i (0, 0, 0, 0, 0, 0))
theorem RecAt.fp {N M : AM} {i : Int} {r : LRec} (h : RecAt N i r) (f : FP N M) : RecAt M i r := ⟨h.1.fp f, (f.cell (by omega) (by omega)).trans h.2⟩
theorem RowsAll.fp {N M : AM} {rs : List LRec} (h : RowsAll N rs) (f : FP N M) : RowsAll M rs := fun i hi => (h i hi).fp f
theorem RowsAll.more {N M : AM} {rs : List LRec} (h : RowsAll N rs) (f : FL (rs.length : Int) N M) {r : LRec} (hr : RecAt M (rs.length : Int) r) : RowsAll M (rs ++ [r]) := by
  intro i hi
  rw [List.length_append] at hi
  have hi2 : i < rs.length + 1 := hi
  by_cases q : i = rs.length
  · subst q
    simp only [List.getD, List.getElem?_append_right (Nat.le_refl _), Nat.sub_self, List.getElem?_cons_zero, Option.getD_some]
    exact hr
  · have hlt : i < rs.length := by omega
    have e : (rs ++ [r]).getD i (0, 0, 0, 0, 0, 0) = rs.getD i (0, 0, 0, 0, 0, 0) := by simp [List.getD, List.getElem?_append_left hlt]
    rw [e]
    have g := h i hlt
    have n : ∀ o : Nat, 92 ≤ o → o ≤ 97 → mi M o (72 + (i : Int)).toNat = mi N o (72 + (i : Int)).toNat := fun o h1 h2 => f.cell (by omega) (by omega) (by omega) (by omega)
    exact ⟨⟨(n 92 (by omega) (by omega)).trans g.1.1, (n 95 (by omega) (by omega)).trans g.1.2.1, (n 96 (by omega) (by omega)).trans g.1.2.2.1, (n 93 (by omega) (by omega)).trans g.1.2.2.2.1, (n 94 (by omega) (by omega)).trans g.1.2.2.2.2⟩, (n 97 (by omega) (by omega)).trans g.2⟩
/-- lines of a text from the l-th on -/
def prL (c : Int → Int) (six : Bool) (n : Int) : Nat → Int → PSt → List LRec → Except Int (PSt × List LRec)
  | 0, _, s, _ => .error s.1
  | x + 1, l, s, rs => if l = 12 then .error s.1 else match pLine c six s with
    | .error p => .error p
    | .ok z => if c z.1.1 = 59 then prL c six n x (l + 1) (z.1.1 + 1, z.1.2) (rs ++ [z.2]) else if z.1.1 < n then .error z.1.1 else .ok (z.1, rs ++ [z.2])
/-- a whole text -/
def prX (c : Int → Int) (six : Bool) (n : Int) : Except Int (PSt × List LRec) := prL c six n 13 0 (0, []) []
/-- a program that was read, put into box b -/
def pgM (N : AM) (b : Int) : AM := (mvr (mvr (mvr (mvr (mvr (mvr (mvr (mvr (si (si N 86 16 0) 91 b.toNat (mi N 91 6)) 92 (12 * b) 72 12) 93 (12 * b) 72 12) 94 (12 * b) 72 12) 95 (12 * b) 72 12) 96 (12 * b) 72 12) 97 (12 * b) 72 12) 98 (170 * b) 1020 (mi N 86 20)) 99 (170 * b) 1020 (mi N 86 20))

theorem pLine_good {c : Int → Int} {N : Int} (hc : ∀ x, N ≤ x → c x < 0) (six : Bool) {a : Int} {w : List (Nat × Int)} (h0 : 0 ≤ a) (hN : a ≤ N) :
    (∀ z, pLine c six (a, w) = .ok z → a < z.1.1 ∧ z.1.1 ≤ N ∧ ∃ w1 w2 : List (Nat × Int), z.1.2 = w ++ w1 ++ w2 ∧ ((w1 ++ w2).length : Int) ≤ z.1.1 - a ∧ z.2.2.1 = w.length ∧ z.2.2.2.1 = (w ++ w1).length ∧ z.2.2.2.2.2.2 = z.1.2.length ∧ (w1 = [] ∨ ∀ n, 0 ≤ n → hgt w1 n = some (n + 1)) ∧ (∀ n, 0 ≤ n → hgt w2 n = some (n + 1)) ∧ (0 ≤ z.2.1 ∧ z.2.1 ≤ 1) ∧ (0 ≤ z.2.2.2.2.1 ∧ z.2.2.2.2.1 ≤ 1) ∧ ((0 ≤ z.2.2.2.2.2.1 ∧ z.2.2.2.2.2.1 ≤ 7) ∨ (10 ≤ z.2.2.2.2.2.1 ∧ z.2.2.2.2.2.1 ≤ 13))) ∧
    (∀ p, pLine c six (a, w) = .error p → a ≤ p ∧ p ≤ N) := by
  have hg := pAll_good hc six
  have k1 := kxt_c c a 107
  have l1 := fun (z : c a = 107) => lt_end hc (a := a) (by omega)
  -- the test
  have T : (∀ q, pTest c six (a + kxt c a 107, w) = .ok q → a + kxt c a 107 ≤ q.1 ∧ q.1 ≤ N ∧ ∃ w1 : List (Nat × Int), q.2 = w ++ w1 ∧ (w1.length : Int) ≤ q.1 - (a + kxt c a 107) ∧ (w1 = [] ∨ ∀ n, 0 ≤ n → hgt w1 n = some (n + 1))) ∧ (∀ p, pTest c six (a + kxt c a 107, w) = .error p → a ≤ p ∧ p ≤ N) := by
    unfold pTest
    dsimp only
    split
    · next hq =>
      have hlt := lt_end hc (a := a + kxt c a 107) (by omega)
      have G := hg (a + kxt c a 107 + 1) w (by omega) (by omega)
      refine ⟨fun q e => ?_, fun p e => ?_⟩
      · obtain ⟨s, e1, e2⟩ := pThen_ok e
        obtain ⟨g1, g2, w1, g3, g4, g5, g6⟩ := G.1 s e1
        split at e2
        · next h58 =>
          have hl2 := lt_end hc (a := s.1) (by omega)
          simp only [Except.ok.injEq] at e2
          subst e2
          exact ⟨by dsimp only; omega, by dsimp only; omega, w1, g3, by dsimp only; omega, Or.inr g6⟩
        · simp at e2
      · rcases pThen_er e with e1 | ⟨s, e1, e2⟩
        · have := G.2 p e1; omega
        · have g := G.1 s e1
          split at e2
          · simp at e2
          · simp at e2; omega
    · refine ⟨fun q e => ?_, fun p e => by simp at e⟩
      simp only [Except.ok.injEq] at e
      subst e
      exact ⟨Int.le_refl _, by dsimp only; omega, [], by simp, by show ((0 : Nat) : Int) ≤ _; dsimp only; omega, Or.inl rfl⟩
  unfold pLine
  dsimp only
  cases ht : pTest c six (a + kxt c a 107, w) with
  | error p =>
    refine ⟨fun z e => by simp at e, fun p2 e => ?_⟩
    simp at e
    subst e
    exact T.2 p ht
  | ok q =>
    obtain ⟨t1, t2, w1, t3, t4, t5⟩ := T.1 q ht
    have k2 := kxt_c c q.1 33
    have l2 := fun (z : c q.1 = 33) => lt_end hc (a := q.1) (by omega)
    have G : (∀ g, pTgt c (q.1 + kxt c q.1 33) = .ok g → (q.1 + kxt c q.1 33) + 1 < N ∧ ((0 ≤ g ∧ g ≤ 7) ∨ (10 ≤ g ∧ g ≤ 13))) ∧ (∀ p, pTgt c (q.1 + kxt c q.1 33) = .error p → a ≤ p ∧ p ≤ N) := by
      unfold pTgt
      split
      · next h114 =>
        have := lt_end hc (a := q.1 + kxt c q.1 33) (by omega)
        split
        · have := lt_end hc (a := q.1 + kxt c q.1 33 + 1) (by omega)
          exact ⟨fun g e => by simp at e; omega, fun p e => by simp at e⟩
        · exact ⟨fun g e => by simp at e, fun p e => by simp at e; omega⟩
      · split
        · have := lt_end hc (a := q.1 + kxt c q.1 33) (by omega)
          split
          · have := lt_end hc (a := q.1 + kxt c q.1 33 + 1) (by omega)
            exact ⟨fun g e => by simp at e; omega, fun p e => by simp at e⟩
          · exact ⟨fun g e => by simp at e, fun p e => by simp at e; omega⟩
        · exact ⟨fun g e => by simp at e, fun p e => by simp at e; omega⟩
    dsimp only
    unfold pRest
    cases hg2 : pTgt c (q.1 + kxt c q.1 33) with
    | error p =>
      refine ⟨fun z e => by simp at e, fun p2 e => ?_⟩
      simp at e
      subst e
      exact G.2 p hg2
    | ok g =>
      have gg := G.1 g hg2
      dsimp only
      split
      · next h61 =>
        have l3 := lt_end hc (a := q.1 + kxt c q.1 33 + 1 + 1) (by omega)
        have P := hg (q.1 + kxt c q.1 33 + 1 + 1 + 1) q.2 (by omega) (by omega)
        cases hp : pAll c six (q.1 + kxt c q.1 33 + 1 + 1 + 1, q.2) with
        | error p =>
          refine ⟨fun z e => by simp at e, fun p2 e => ?_⟩
          simp at e
          subst e
          have := P.2 p hp
          omega
        | ok r =>
          obtain ⟨p1, p2, w2, p3, p4, p5, p6⟩ := P.1 r hp
          refine ⟨fun z e => ?_, fun p2 e => by simp at e⟩
          simp only [Except.ok.injEq] at e
          subst e
          dsimp only
          refine ⟨by omega, p2, w1, w2, by rw [p3, t3], by rw [List.length_append]; omega, rfl, by rw [t3], rfl, t5, p6, by omega, by omega, gg.2⟩
      · refine ⟨fun z e => by simp at e, fun p2 e => ?_⟩
        simp at e
        omega


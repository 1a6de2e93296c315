/-! the class reads a value -/
def inC (m : AM) (x : Nat) (wire : Int) : Int × Int :=
  if wire < 0 then (0, 0) else if mi m 19 (wire / 10).toNat = 0 then (0, mi m 18 (((wire / 10) * 4) + (wire % 10)).toNat)
  else if mi m x 1 = 2 then (0, 9000 + mi m 19 (wire / 10).toNat) else (4, 0)
theorem input_spec (m : AM) (x : Nat) (wire : Int) : FX10_inputOf m x wire = ((inC m x wire).2, if (inC m x wire).1 = 0 then m else si m 17 9 (inC m x wire).1) := by
  unfold FX10_inputOf inC
  by_cases h1 : wire < 0
  · rw [if_neg (show ¬ wire ≥ 0 by omega), if_pos h1]
    rfl
  · rw [if_pos (show wire ≥ 0 by omega), if_neg h1]
    by_cases h2 : mi m 19 (wire / 10).toNat = 0
    · rw [if_neg (show ¬ mi m 19 (wire / 10).toNat ≠ 0 by omega), if_pos h2]
      rfl
    · rw [if_pos h2, if_neg h2]
      by_cases h3 : mi m x 1 = 2
      · rw [if_neg (show ¬ mi m x 1 ≠ 2 by omega), if_pos h3]
        rfl
      · rw [if_pos h3, if_neg h3]
        rfl
def cdK (m : AM) (p : Nat) (k : Int) : Nat × Int := ((z_ishr (mi m (p + 1) k.toNat) 20).toNat, z_iand (mi m (p + 1) k.toNat) 1048575)
def rdC (m : AM) (o x : Nat) (w : Nat) (v : Int) : Int × Int := if w = 2 then inC m x (mi m (x + 2) v.toNat) else (0, FX10_valueOf m o x w v)
/-- what a running ticker of the class keeps: stand o, box x, program p -/
def RK (m : AM) (o x p : Nat) : Prop := St m ∧ IM m ∧ (ObA m o 9 fsStand ∧ mr m 17 4 = some o) ∧ (ObA m x 1 fsBox ∧ mr m 17 5 = some x) ∧ (ObA m p 5 fsProg ∧ mr m 17 6 = some p) ∧ (0 ≤ mi m x 0 ∧ mi m x 0 ≤ 5) ∧ (∀ j : Nat, -1 ≤ mi m (x + 2) j ∧ mi m (x + 2) j ≤ 53 ∧ mi m (x + 2) j % 10 ≤ 3 ∨ mi m (x + 2) j = -1) ∧ (∀ j : Nat, 0 ≤ mi m 19 j ∧ mi m 19 j ≤ 100) ∧ (∀ j : Nat, -1000000 ≤ mi m (o + 1) j ∧ mi m (o + 1) j ≤ 1000000) ∧ (∀ j : Nat, -1000000 ≤ mi m 18 j ∧ mi m 18 j ≤ 1000000) ∧ (∀ j : Nat, -100000 ≤ mi m 20 j ∧ mi m 20 j ≤ 100000) ∧ (0 ≤ mi m 17 7 ∧ mi m 17 7 ≤ 4096) ∧ (0 ≤ mi m 17 8 ∧ mi m 17 8 ≤ 100)
theorem inC_rng {m : AM} {o x p : Nat} (h : RK m o x p) (wire : Int) : -1000000 ≤ (inC m x wire).2 ∧ (inC m x wire).2 ≤ 1000000 ∧ 0 ≤ (inC m x wire).1 ∧ (inC m x wire).1 ≤ 4 := by
  obtain ⟨-, -, -, -, -, -, -, h1, -, h2, -⟩ := h
  have a := h1 (wire / 10).toNat
  have b := h2 (((wire / 10) * 4) + (wire % 10)).toNat
  unfold inC
  split
  · exact ⟨by decide, by decide, by decide, by decide⟩
  · split
    · exact ⟨b.1, b.2, Int.le_refl _, (show (0 : Int) ≤ 4 by decide)⟩
    · split
      · dsimp only
        omega
      · exact ⟨by decide, by decide, by decide, by decide⟩
theorem rdC_rng {m : AM} {o x p : Nat} (h : RK m o x p) {w : Nat} (hw : w < 6) {v : Int} (h0 : w = 0 → 0 ≤ v ∧ v ≤ 99999) : -1000000 ≤ (rdC m o x w v).2 ∧ (rdC m o x w v).2 ≤ 1000000 := by
  unfold rdC
  split
  · exact ⟨(inC_rng h _).1, (inC_rng h _).2.1⟩
  · next h2 =>
    obtain ⟨-, -, -, -, -, -, -, -, a1, -, a3, a4, a5⟩ := h
    have b1 := a1 (((mi m x 0) * 8) + v).toNat
    have b3 := a3 v.toNat
    show -1000000 ≤ FX10_valueOf m o x w v ∧ FX10_valueOf m o x w v ≤ 1000000
    unfold FX10_valueOf
    split
    · exact b1
    · split
      · omega
      · split
        · omega
        · split
          · omega
          · have : w = 0 := by omega
            have := h0 this
            omega
/-- only the pile differs -/
def PL (m N : AM) : Prop := N.1 = m.1 ∧ N.2.2 = m.2.2 ∧ ∀ o j : Nat, o ≠ 21 → N.2.1 o j = m.2.1 o j
theorem PL.rf (m : AM) : PL m m := ⟨rfl, rfl, fun _ _ _ => rfl⟩
theorem PL.mi {m N : AM} (h : PL m N) : mi N = mi m := by
  funext o k
  show (zi (N.1 o k)).toInt = (zi (m.1 o k)).toInt
  rw [h.1]
theorem PL.push {m N : AM} (h : PL m N) (k : Nat) (v : Int) : PL m (sl N 21 k v) := ⟨h.1, h.2.1, fun o j ho => by
  show (if o = 21 ∧ j = k then v else N.2.1 o j) = m.2.1 o j
  rw [if_neg (fun z => ho z.1)]
  exact h.2.2 o j ho⟩


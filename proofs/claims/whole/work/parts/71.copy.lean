/-- a stretch of a row that takes over another stretch of it -/
def mvr (m : AM) (o : Nat) (d s e : Int) : AM := (fun p j => if p = o ∧ d ≤ (j : Int) ∧ (j : Int) < d + e then mi m o ((j : Int) - d + s).toNat else m.1 p j, m.2)
theorem mi_mvr (m : AM) (o : Nat) (d s e : Int) (p j : Nat) : mi (mvr m o d s e) p j = if p = o ∧ d ≤ (j : Int) ∧ (j : Int) < d + e then mi m o ((j : Int) - d + s).toNat else mi m p j := by
  show (zi (if p = o ∧ d ≤ (j : Int) ∧ (j : Int) < d + e then mi m o ((j : Int) - d + s).toNat else m.1 p j)).toInt = _
  by_cases h : p = o ∧ d ≤ (j : Int) ∧ (j : Int) < d + e
  · rw [if_pos h, if_pos h]
    exact zi_toInt (mi_rng m o _).1 (mi_rng m o _).2
  · rw [if_neg h, if_neg h]
    rfl
theorem mvr_0 (m : AM) (o : Nat) (d s : Int) {e : Int} (h : e ≤ 0) : mvr m o d s e = m := by
  have e1 : (fun (p j : Nat) => if p = o ∧ d ≤ (j : Int) ∧ (j : Int) < d + e then mi m o ((j : Int) - d + s).toNat else m.1 p j) = m.1 := by
    funext p j
    exact if_neg (fun q => by omega)
  show (_, m.2) = m
  rw [e1]
theorem mvr_si {m : AM} {o j : Nat} {d s e v : Int} (h0 : 0 ≤ d) (h : 0 ≤ e) (hj : j = (d + e).toNat) (hv : v = mi m o (s + e).toNat) : si (mvr m o d s e) o j v = mvr m o d s (e + 1) := by
  subst hj
  subst hv
  have e1 : u2 (fun (p j : Nat) => if p = o ∧ d ≤ (j : Int) ∧ (j : Int) < d + e then mi m o ((j : Int) - d + s).toNat else m.1 p j) o (d + e).toNat (mi m o (s + e).toNat) = (fun (p j : Nat) => if p = o ∧ d ≤ (j : Int) ∧ (j : Int) < d + (e + 1) then mi m o ((j : Int) - d + s).toNat else m.1 p j) := by
    funext p j
    show (if p = o ∧ j = (d + e).toNat then mi m o (s + e).toNat else if p = o ∧ d ≤ (j : Int) ∧ (j : Int) < d + e then mi m o ((j : Int) - d + s).toNat else m.1 p j) = if p = o ∧ d ≤ (j : Int) ∧ (j : Int) < d + (e + 1) then mi m o ((j : Int) - d + s).toNat else m.1 p j
    by_cases hp : p = o
    · by_cases hj : j = (d + e).toNat
      · rw [if_pos ⟨hp, hj⟩, if_pos ⟨hp, by omega, by omega⟩, show (j : Int) - d + s = s + e by omega]
      · rw [if_neg (fun q => hj q.2)]
        by_cases h3 : d ≤ (j : Int) ∧ (j : Int) < d + e
        · rw [if_pos ⟨hp, h3⟩, if_pos ⟨hp, by omega⟩]
        · rw [if_neg (fun q => h3 q.2), if_neg (fun q => h3 (by omega))]
    · rw [if_neg (fun q => hp q.1), if_neg (fun q => hp q.1), if_neg (fun q => hp q.1)]
  show (_, _) = (_, _)
  rw [show (mvr m o d s e).1 = (fun (p j : Nat) => if p = o ∧ d ≤ (j : Int) ∧ (j : Int) < d + e then mi m o ((j : Int) - d + s).toNat else m.1 p j) from rfl, e1]
  rfl
theorem si_mvr {m : AM} {o o1 j : Nat} {d s e v : Int} (h : o ≠ o1) : si (mvr m o1 d s e) o j v = mvr (si m o j v) o1 d s e := by
  have e1 : u2 (fun (p j : Nat) => if p = o1 ∧ d ≤ (j : Int) ∧ (j : Int) < d + e then mi m o1 ((j : Int) - d + s).toNat else m.1 p j) o j v = (fun (p i : Nat) => if p = o1 ∧ d ≤ (i : Int) ∧ (i : Int) < d + e then mi (si m o j v) o1 ((i : Int) - d + s).toNat else u2 m.1 o j v p i) := by
    funext p i
    have hm : ∀ x : Nat, mi (si m o j v) o1 x = mi m o1 x := fun x => mi_si_ne m v (fun q => h q.1.symm)
    rw [hm]
    show (if p = o ∧ i = j then v else if p = o1 ∧ d ≤ (i : Int) ∧ (i : Int) < d + e then mi m o1 ((i : Int) - d + s).toNat else m.1 p i) = if p = o1 ∧ d ≤ (i : Int) ∧ (i : Int) < d + e then mi m o1 ((i : Int) - d + s).toNat else if p = o ∧ i = j then v else m.1 p i
    by_cases h1 : p = o ∧ i = j
    · have h2 : ¬ (p = o1 ∧ d ≤ (i : Int) ∧ (i : Int) < d + e) := fun q => h (h1.1.symm.trans q.1)
      rw [if_pos h1, if_neg h2, if_pos h1]
    · rw [if_neg h1, if_neg h1]
  show (_, _) = (_, _)
  rw [show (mvr m o1 d s e).1 = (fun (p j : Nat) => if p = o1 ∧ d ≤ (j : Int) ∧ (j : Int) < d + e then mi m o1 ((j : Int) - d + s).toNat else m.1 p j) from rfl, e1]
  rfl

set_option maxRecDepth 20000 in
set_option maxHeartbeats 8000000 in
theorem lp_program_122 {G : QW} {R : Room} {F : QFin} {cc cs : Nat} {m : AM} {b : Int} (hS : St m) (hb0 : 0 ≤ b) (hb5 : b ≤ 5) (hb01 : ∀ o j : Nat, o = 92 ∨ o = 93 → 0 ≤ mi m o j ∧ mi m o j ≤ 1) (hexit : qJ G mX12_program R F 225 [(0, vR 86), (1, vI b)] [] (mvr (mvr (mvr (mvr (mvr (mvr m 92 (12 * b) 72 12) 93 (12 * b) 72 12) 94 (12 * b) 72 12) 95 (12 * b) 72 12) 96 (12 * b) 72 12) 97 (12 * b) 72 12) cc cs) : ∀ (x : Nat) (s : Int), s + x = 12 → 0 ≤ s → qJ G mX12_program R F 122 [(0, vR 86), (1, vI b), (2, vI s)] [] (mvr (mvr (mvr (mvr (mvr (mvr m 92 (12 * b) 72 s) 93 (12 * b) 72 s) 94 (12 * b) 72 s) 95 (12 * b) 72 s) 96 (12 * b) 72 s) 97 (12 * b) 72 s) cc cs := by
  intro x
  induction x with
  | zero =>
    intro s hx hs0
    refine j_iload_n rfl rfl ?_
    refine j_bipush rfl (by decide) ?_
    refine j_icmp_ge (tgt := 225) rfl (by decide) (by omega) (by omega) (by omega) (by omega) (fun hb125_1 => ?_) (fun hb125_1 => ?_)
    · skip
      obtain rfl : s = 12 := by omega
      refine j_loc (ls' := [(0, vR 86), (1, vI b)]) rfl ?_
      exact hexit
    · skip
      exfalso; omega
  | succ x ih =>
    intro s hx hs0
    refine j_iload_n rfl rfl ?_
    refine j_bipush rfl (by decide) ?_
    refine j_icmp_ge (tgt := 225) rfl (by decide) (by omega) (by omega) (by omega) (by omega) (fun hb125_1 => ?_) (fun hb125_1 => ?_)
    · skip
      exfalso; omega
    · skip
      refine j_bipush rfl (by decide) ?_
      refine j_iload_n rfl rfl ?_
      refine j_imul rfl ?_
      refine j_iload_n rfl rfl ?_
      refine j_iadd rfl ?_
      refine j_istore_n rfl (by decide) ?_
      refine j_bipush rfl (by decide) ?_
      refine j_iload_n rfl rfl ?_
      refine j_iadd rfl ?_
      refine j_istore rfl (by decide) ?_
      refine j_aload_n rfl rfl ?_
      refine j_getR (q := 92) rfl f_X12_25 rfl (hS.lt (by decide)) (hS.k (by decide) (by decide)) (hS.r (by decide)) ?_
      refine j_iload_n rfl rfl ?_
      refine j_aload_n rfl rfl ?_
      refine j_getR (q := 92) rfl f_X12_25 rfl (hS.lt (by decide)) (hS.k (by decide) (by decide)) (hS.r (by decide)) ?_
      refine j_iload rfl rfl ?_
      refine j_zald (n := 84) rfl (hS.lt (by decide)) (hS.k (by decide) (by decide)) (hS.n (by decide) (by decide)) (by omega) (by omega) (by decide) ?_
      rw [show mi (mvr (mvr (mvr (mvr (mvr (mvr m 92 (12 * b) 72 s) 93 (12 * b) 72 s) 94 (12 * b) 72 s) 95 (12 * b) 72 s) 96 (12 * b) 72 s) 97 (12 * b) 72 s) 92 (72 + s).toNat = mi m 92 (72 + s).toNat from by simp [mi_si, mi_mvr] <;> omega]
      have u152_1 := hb01 92 (72 + s).toNat (Or.inl rfl)
      refine j_zast (n := 84) rfl (hS.lt (by decide)) (hS.k (by decide) (by decide)) (hS.n (by decide) (by decide)) (by omega) (by omega) (by first | decide | omega) (by omega) ?_
      refine j_aload_n rfl rfl ?_
      refine j_getR (q := 93) rfl f_X12_29 rfl (hS.lt (by decide)) (hS.k (by decide) (by decide)) (hS.r (by decide)) ?_
      refine j_iload_n rfl rfl ?_
      refine j_aload_n rfl rfl ?_
      refine j_getR (q := 93) rfl f_X12_29 rfl (hS.lt (by decide)) (hS.k (by decide) (by decide)) (hS.r (by decide)) ?_
      refine j_iload rfl rfl ?_
      refine j_zald (n := 84) rfl (hS.lt (by decide)) (hS.k (by decide) (by decide)) (hS.n (by decide) (by decide)) (by omega) (by omega) (by decide) ?_
      rw [show mi (si (mvr (mvr (mvr (mvr (mvr (mvr m 92 (12 * b) 72 s) 93 (12 * b) 72 s) 94 (12 * b) 72 s) 95 (12 * b) 72 s) 96 (12 * b) 72 s) 97 (12 * b) 72 s) 92 ((12 * b) + s).toNat (mi m 92 (72 + s).toNat)) 93 (72 + s).toNat = mi m 93 (72 + s).toNat from by simp [mi_si, mi_mvr] <;> omega]
      have u165_1 := hb01 93 (72 + s).toNat (Or.inr rfl)
      refine j_zast (n := 84) rfl (hS.lt (by decide)) (hS.k (by decide) (by decide)) (hS.n (by decide) (by decide)) (by omega) (by omega) (by first | decide | omega) (by omega) ?_
      refine j_aload_n rfl rfl ?_
      refine j_getR (q := 94) rfl f_X12_32 rfl (hS.lt (by decide)) (hS.k (by decide) (by decide)) (hS.r (by decide)) ?_
      refine j_iload_n rfl rfl ?_
      refine j_aload_n rfl rfl ?_
      refine j_getR (q := 94) rfl f_X12_32 rfl (hS.lt (by decide)) (hS.k (by decide) (by decide)) (hS.r (by decide)) ?_
      refine j_iload rfl rfl ?_
      refine j_iald (n := 84) rfl (hS.lt (by decide)) (hS.k (by decide) (by decide)) (hS.n (by decide) (by decide)) (by omega) (by omega) (by decide) ?_
      rw [show mi (si (si (mvr (mvr (mvr (mvr (mvr (mvr m 92 (12 * b) 72 s) 93 (12 * b) 72 s) 94 (12 * b) 72 s) 95 (12 * b) 72 s) 96 (12 * b) 72 s) 97 (12 * b) 72 s) 92 ((12 * b) + s).toNat (mi m 92 (72 + s).toNat)) 93 ((12 * b) + s).toNat (mi m 93 (72 + s).toNat)) 94 (72 + s).toNat = mi m 94 (72 + s).toNat from by simp [mi_si, mi_mvr] <;> omega]
      have u178_1 := mi_rng m 94 (72 + s).toNat
      refine j_iast (n := 84) rfl (hS.lt (by decide)) (hS.k (by decide) (by decide)) (hS.n (by decide) (by decide)) (by omega) (by omega) (by first | decide | omega) ?_
      refine j_aload_n rfl rfl ?_
      refine j_getR (q := 95) rfl f_X12_35 rfl (hS.lt (by decide)) (hS.k (by decide) (by decide)) (hS.r (by decide)) ?_
      refine j_iload_n rfl rfl ?_
      refine j_aload_n rfl rfl ?_
      refine j_getR (q := 95) rfl f_X12_35 rfl (hS.lt (by decide)) (hS.k (by decide) (by decide)) (hS.r (by decide)) ?_
      refine j_iload rfl rfl ?_
      refine j_iald (n := 84) rfl (hS.lt (by decide)) (hS.k (by decide) (by decide)) (hS.n (by decide) (by decide)) (by omega) (by omega) (by decide) ?_
      rw [show mi (si (si (si (mvr (mvr (mvr (mvr (mvr (mvr m 92 (12 * b) 72 s) 93 (12 * b) 72 s) 94 (12 * b) 72 s) 95 (12 * b) 72 s) 96 (12 * b) 72 s) 97 (12 * b) 72 s) 92 ((12 * b) + s).toNat (mi m 92 (72 + s).toNat)) 93 ((12 * b) + s).toNat (mi m 93 (72 + s).toNat)) 94 ((12 * b) + s).toNat (mi m 94 (72 + s).toNat)) 95 (72 + s).toNat = mi m 95 (72 + s).toNat from by simp [mi_si, mi_mvr] <;> omega]
      have u191_1 := mi_rng m 95 (72 + s).toNat
      refine j_iast (n := 84) rfl (hS.lt (by decide)) (hS.k (by decide) (by decide)) (hS.n (by decide) (by decide)) (by omega) (by omega) (by first | decide | omega) ?_
      refine j_aload_n rfl rfl ?_
      refine j_getR (q := 96) rfl f_X12_38 rfl (hS.lt (by decide)) (hS.k (by decide) (by decide)) (hS.r (by decide)) ?_
      refine j_iload_n rfl rfl ?_
      refine j_aload_n rfl rfl ?_
      refine j_getR (q := 96) rfl f_X12_38 rfl (hS.lt (by decide)) (hS.k (by decide) (by decide)) (hS.r (by decide)) ?_
      refine j_iload rfl rfl ?_
      refine j_iald (n := 84) rfl (hS.lt (by decide)) (hS.k (by decide) (by decide)) (hS.n (by decide) (by decide)) (by omega) (by omega) (by decide) ?_
      rw [show mi (si (si (si (si (mvr (mvr (mvr (mvr (mvr (mvr m 92 (12 * b) 72 s) 93 (12 * b) 72 s) 94 (12 * b) 72 s) 95 (12 * b) 72 s) 96 (12 * b) 72 s) 97 (12 * b) 72 s) 92 ((12 * b) + s).toNat (mi m 92 (72 + s).toNat)) 93 ((12 * b) + s).toNat (mi m 93 (72 + s).toNat)) 94 ((12 * b) + s).toNat (mi m 94 (72 + s).toNat)) 95 ((12 * b) + s).toNat (mi m 95 (72 + s).toNat)) 96 (72 + s).toNat = mi m 96 (72 + s).toNat from by simp [mi_si, mi_mvr] <;> omega]
      have u204_1 := mi_rng m 96 (72 + s).toNat
      refine j_iast (n := 84) rfl (hS.lt (by decide)) (hS.k (by decide) (by decide)) (hS.n (by decide) (by decide)) (by omega) (by omega) (by first | decide | omega) ?_
      refine j_aload_n rfl rfl ?_
      refine j_getR (q := 97) rfl f_X12_41 rfl (hS.lt (by decide)) (hS.k (by decide) (by decide)) (hS.r (by decide)) ?_
      refine j_iload_n rfl rfl ?_
      refine j_aload_n rfl rfl ?_
      refine j_getR (q := 97) rfl f_X12_41 rfl (hS.lt (by decide)) (hS.k (by decide) (by decide)) (hS.r (by decide)) ?_
      refine j_iload rfl rfl ?_
      refine j_iald (n := 84) rfl (hS.lt (by decide)) (hS.k (by decide) (by decide)) (hS.n (by decide) (by decide)) (by omega) (by omega) (by decide) ?_
      rw [show mi (si (si (si (si (si (mvr (mvr (mvr (mvr (mvr (mvr m 92 (12 * b) 72 s) 93 (12 * b) 72 s) 94 (12 * b) 72 s) 95 (12 * b) 72 s) 96 (12 * b) 72 s) 97 (12 * b) 72 s) 92 ((12 * b) + s).toNat (mi m 92 (72 + s).toNat)) 93 ((12 * b) + s).toNat (mi m 93 (72 + s).toNat)) 94 ((12 * b) + s).toNat (mi m 94 (72 + s).toNat)) 95 ((12 * b) + s).toNat (mi m 95 (72 + s).toNat)) 96 ((12 * b) + s).toNat (mi m 96 (72 + s).toNat)) 97 (72 + s).toNat = mi m 97 (72 + s).toNat from by simp [mi_si, mi_mvr] <;> omega]
      have u217_1 := mi_rng m 97 (72 + s).toNat
      refine j_iast (n := 84) rfl (hS.lt (by decide)) (hS.k (by decide) (by decide)) (hS.n (by decide) (by decide)) (by omega) (by omega) (by first | decide | omega) ?_
      refine j_iinc rfl rfl (by decide) ?_
      refine j_goto (tgt := 122) rfl (by decide) ?_
      refine j_loc (ls' := [(0, vR 86), (1, vI b), (2, vI (s + 1))]) rfl ?_
      rw [si_mvr (o := 92) (o1 := 97) (by decide), si_mvr (o := 92) (o1 := 96) (by decide), si_mvr (o := 92) (o1 := 95) (by decide), si_mvr (o := 92) (o1 := 94) (by decide), si_mvr (o := 92) (o1 := 93) (by decide), mvr_si (m := m) (o := 92) (d := 12 * b) (s := 72) (e := s) (v := mi m 92 (72 + s).toNat) (by omega) (by omega) rfl (by first | rfl | simp [mi_mvr]), si_mvr (o := 93) (o1 := 97) (by decide), si_mvr (o := 93) (o1 := 96) (by decide), si_mvr (o := 93) (o1 := 95) (by decide), si_mvr (o := 93) (o1 := 94) (by decide), mvr_si (m := (mvr m 92 (12 * b) 72 (s + 1))) (o := 93) (d := 12 * b) (s := 72) (e := s) (v := mi m 93 (72 + s).toNat) (by omega) (by omega) rfl (by first | rfl | simp [mi_mvr]), si_mvr (o := 94) (o1 := 97) (by decide), si_mvr (o := 94) (o1 := 96) (by decide), si_mvr (o := 94) (o1 := 95) (by decide), mvr_si (m := (mvr (mvr m 92 (12 * b) 72 (s + 1)) 93 (12 * b) 72 (s + 1))) (o := 94) (d := 12 * b) (s := 72) (e := s) (v := mi m 94 (72 + s).toNat) (by omega) (by omega) rfl (by first | rfl | simp [mi_mvr]), si_mvr (o := 95) (o1 := 97) (by decide), si_mvr (o := 95) (o1 := 96) (by decide), mvr_si (m := (mvr (mvr (mvr m 92 (12 * b) 72 (s + 1)) 93 (12 * b) 72 (s + 1)) 94 (12 * b) 72 (s + 1))) (o := 95) (d := 12 * b) (s := 72) (e := s) (v := mi m 95 (72 + s).toNat) (by omega) (by omega) rfl (by first | rfl | simp [mi_mvr]), si_mvr (o := 96) (o1 := 97) (by decide), mvr_si (m := (mvr (mvr (mvr (mvr m 92 (12 * b) 72 (s + 1)) 93 (12 * b) 72 (s + 1)) 94 (12 * b) 72 (s + 1)) 95 (12 * b) 72 (s + 1))) (o := 96) (d := 12 * b) (s := 72) (e := s) (v := mi m 96 (72 + s).toNat) (by omega) (by omega) rfl (by first | rfl | simp [mi_mvr]), mvr_si (m := (mvr (mvr (mvr (mvr (mvr m 92 (12 * b) 72 (s + 1)) 93 (12 * b) 72 (s + 1)) 94 (12 * b) 72 (s + 1)) 95 (12 * b) 72 (s + 1)) 96 (12 * b) 72 (s + 1))) (o := 97) (d := 12 * b) (s := 72) (e := s) (v := mi m 97 (72 + s).toNat) (by omega) (by omega) rfl (by first | rfl | simp [mi_mvr])]
      exact ih (s + 1) (by omega) (by omega)


/-! the cells that the two constructors make: 0 .. 85 the class's, 86 .. 144 the other's; kinds, lengths, references that stay -/
def kL : List Nat := [11, 6, 13, 17, 18, 19, 4, 13, 13, 13, 13, 13, 8, 13, 13, 14, 14, 10, 13, 13, 13, 14, 0, 13, 9, 13, 13, 13, 13, 13, 13, 13, 9, 13, 13, 13, 13, 13, 13, 13, 9, 13, 13, 13, 13, 13, 13, 13, 3, 13, 13, 13, 13, 20, 13, 13, 13, 13, 13, 2, 13, 13, 5, 13, 13, 13, 13, 13, 7, 14, 15, 7, 14, 15, 7, 14, 15, 7, 14, 15, 7, 14, 15, 7, 14, 15, 12, 13, 13, 13, 13, 13, 16, 16, 13, 13, 13, 13, 15, 13, 15, 13, 13, 13, 13, 13, 13, 13, 13, 13, 13, 16, 13, 13, 13, 14, 13, 13, 13, 16, 13, 13, 13, 13, 13, 13, 14, 14, 13, 13, 13, 16, 13, 13, 13, 13, 13, 13, 13, 13, 13, 14, 16, 14, 16]
def nL : List Nat := [0, 0, 160, 6, 8, 6, 0, 20, 20, 20, 20, 240, 0, 6, 6, 160, 160, 0, 24, 6, 3, 160, 0, 24, 0, 48, 24, 6, 6, 6, 6, 4, 0, 48, 24, 6, 6, 6, 6, 4, 0, 48, 24, 6, 6, 6, 6, 4, 0, 3, 3, 3, 3, 3, 60, 60, 60, 3, 8, 0, 256, 256, 0, 160, 12, 12, 12, 12, 0, 60, 60, 0, 60, 60, 0, 60, 60, 0, 60, 60, 0, 60, 60, 0, 60, 60, 0, 6, 48, 24, 6, 7, 84, 84, 84, 84, 84, 84, 1190, 1190, 160, 24, 24, 24, 24, 4800, 48, 24, 24, 24, 24, 6, 6, 6, 3, 170, 48, 24, 24, 6, 6, 6, 4, 6, 6, 3, 170, 170, 48, 24, 24, 6, 8, 20, 20, 20, 40, 240, 24, 6, 6, 360, 360, 60, 60]
def rL : List (Nat × Nat × Nat) := [(0, 0, 1), (0, 1, 3), (0, 2, 4), (0, 3, 5), (0, 4, 6), (0, 5, 12), (0, 6, 17), (0, 7, 22), (0, 8, 24), (0, 9, 32), (0, 10, 40), (0, 11, 48), (0, 12, 57), (0, 13, 58), (0, 14, 59), (1, 0, 2), (5, 0, 68), (5, 1, 71), (5, 2, 74), (5, 3, 77), (5, 4, 80), (5, 5, 83), (6, 0, 7), (6, 1, 8), (6, 2, 9), (6, 3, 10), (6, 4, 11), (12, 0, 13), (12, 1, 14), (12, 2, 15), (12, 3, 16), (17, 0, 18), (17, 1, 19), (17, 2, 20), (17, 3, 21), (22, 0, 23), (24, 0, 25), (24, 1, 26), (24, 2, 27), (24, 3, 28), (24, 4, 29), (24, 5, 30), (24, 6, 31), (32, 0, 33), (32, 1, 34), (32, 2, 35), (32, 3, 36), (32, 4, 37), (32, 5, 38), (32, 6, 39), (40, 0, 41), (40, 1, 42), (40, 2, 43), (40, 3, 44), (40, 4, 45), (40, 5, 46), (40, 6, 47), (48, 0, 49), (48, 1, 50), (48, 2, 51), (48, 3, 52), (48, 4, 53), (53, 0, 54), (53, 1, 55), (53, 2, 56), (59, 0, 60), (59, 1, 61), (62, 0, 63), (62, 1, 64), (62, 2, 65), (62, 3, 66), (62, 4, 67), (68, 0, 69), (68, 1, 70), (71, 0, 72), (71, 1, 73), (74, 0, 75), (74, 1, 76), (77, 0, 78), (77, 1, 79), (80, 0, 81), (80, 1, 82), (83, 0, 84), (83, 1, 85), (86, 2, 87), (86, 3, 88), (86, 4, 89), (86, 5, 90), (86, 6, 91), (86, 7, 92), (86, 8, 93), (86, 9, 94), (86, 10, 95), (86, 11, 96), (86, 12, 97), (86, 13, 98), (86, 14, 99), (86, 15, 100), (86, 22, 101), (86, 23, 102), (86, 24, 103), (86, 25, 104), (86, 26, 105), (86, 27, 106), (86, 28, 107), (86, 29, 108), (86, 30, 109), (86, 31, 110), (86, 32, 111), (86, 33, 112), (86, 34, 113), (86, 41, 114), (86, 42, 115), (86, 52, 116), (86, 53, 117), (86, 54, 118), (86, 55, 119), (86, 56, 120), (86, 57, 121), (86, 58, 122), (86, 59, 123), (86, 60, 124), (86, 61, 125), (86, 63, 126), (86, 64, 127), (86, 65, 128), (86, 66, 129), (86, 67, 130), (86, 68, 131), (86, 69, 132), (86, 71, 133), (86, 72, 134), (86, 73, 135), (86, 74, 136), (86, 75, 137), (86, 77, 138), (86, 78, 139), (86, 79, 140), (86, 80, 141), (86, 81, 142), (86, 82, 143), (86, 83, 144)]
def St (m : AM) : Prop := 145 ≤ mz m ∧ (∀ n, n < 145 → mk m n = kL.getD n 0 ∧ mn m n = nL.getD n 0) ∧ ∀ q ∈ rL, mr m q.1 q.2.1 = some q.2.2
theorem St.lt {m : AM} (h : St m) {n : Nat} (hn : n < 145) : n < mz m := Nat.lt_of_lt_of_le hn h.1
theorem St.k {m : AM} (h : St m) {n k : Nat} (hn : n < 145) (hk : kL.getD n 0 = k) : mk m n = k := (h.2.1 n hn).1.trans hk
theorem St.n {m : AM} (h : St m) {n k : Nat} (hn : n < 145) (hk : nL.getD n 0 = k) : mn m n = k := (h.2.1 n hn).2.trans hk
theorem St.r {m : AM} (h : St m) {o k q : Nat} (hq : (o, k, q) ∈ rL) : mr m o k = some q := h.2.2 (o, k, q) hq
theorem St.si {m : AM} (h : St m) (o k : Nat) (v : Int) : St (si m o k v) := h
theorem St.sl {m : AM} (h : St m) (o k : Nat) (v : Int) : St (sl m o k v) := h
theorem St.cpi {m : AM} (h : St m) (o1 o0 sp dp n : Nat) : St (cpi m o1 o0 sp dp n) := h
theorem St.cpl {m : AM} (h : St m) (o1 o0 sp dp n : Nat) : St (cpl m o1 o0 sp dp n) := h
theorem qite {P Q : Prop} {hP : Decidable P} {hQ : Decidable Q} (h : P ↔ Q) : @ite Int P hP 1 0 = @ite Int Q hQ 1 0 := by
  by_cases p : P
  · rw [if_pos p, if_pos (h.mp p)]
  · rw [if_neg p, if_neg (fun q => p (h.mpr q))]
def z_l2i (a : Int) : Int := (zi a).toInt
theorem z_iand_rng (a b : Int) : -2147483648 ≤ z_iand a b ∧ z_iand a b < 2147483648 := ⟨Int32.minValue_le_toInt _, Int32.toInt_lt _⟩
theorem z_ior_rng (a b : Int) : -2147483648 ≤ z_ior a b ∧ z_ior a b < 2147483648 := ⟨Int32.minValue_le_toInt _, Int32.toInt_lt _⟩
theorem z_ixor_rng (a b : Int) : -2147483648 ≤ z_ixor a b ∧ z_ixor a b < 2147483648 := ⟨Int32.minValue_le_toInt _, Int32.toInt_lt _⟩
theorem z_ishl_rng (a b : Int) : -2147483648 ≤ z_ishl a b ∧ z_ishl a b < 2147483648 := ⟨Int32.minValue_le_toInt _, Int32.toInt_lt _⟩
theorem z_ishr_rng (a b : Int) : -2147483648 ≤ z_ishr a b ∧ z_ishr a b < 2147483648 := ⟨Int32.minValue_le_toInt _, Int32.toInt_lt _⟩
theorem z_iushr_rng (a b : Int) : -2147483648 ≤ z_iushr a b ∧ z_iushr a b < 2147483648 := ⟨Int32.minValue_le_toInt _, Int32.toInt_lt _⟩
theorem z_i2b_rng (a : Int) : -2147483648 ≤ z_i2b a ∧ z_i2b a < 2147483648 := ⟨Int32.minValue_le_toInt _, Int32.toInt_lt _⟩
theorem z_l2i_rng (a : Int) : -2147483648 ≤ z_l2i a ∧ z_l2i a < 2147483648 := ⟨Int32.minValue_le_toInt _, Int32.toInt_lt _⟩
theorem z_land_rng (a b : Int) : -9223372036854775808 ≤ z_land a b ∧ z_land a b < 9223372036854775808 := ⟨Int64.minValue_le_toInt _, Int64.toInt_lt _⟩
theorem z_lor_rng (a b : Int) : -9223372036854775808 ≤ z_lor a b ∧ z_lor a b < 9223372036854775808 := ⟨Int64.minValue_le_toInt _, Int64.toInt_lt _⟩
theorem z_lxor_rng (a b : Int) : -9223372036854775808 ≤ z_lxor a b ∧ z_lxor a b < 9223372036854775808 := ⟨Int64.minValue_le_toInt _, Int64.toInt_lt _⟩
theorem z_lshl_rng (a b : Int) : -9223372036854775808 ≤ z_lshl a b ∧ z_lshl a b < 9223372036854775808 := ⟨Int64.minValue_le_toInt _, Int64.toInt_lt _⟩
theorem z_lshr_rng (a b : Int) : -9223372036854775808 ≤ z_lshr a b ∧ z_lshr a b < 9223372036854775808 := ⟨Int64.minValue_le_toInt _, Int64.toInt_lt _⟩
theorem z_l2f_rng (a : Int) : -9223372036854775808 ≤ z_l2f a ∧ z_l2f a < 9223372036854775808 := ⟨Int64.minValue_le_toInt _, Int64.toInt_lt _⟩
theorem z_l2d_rng (a : Int) : -9223372036854775808 ≤ z_l2d a ∧ z_l2d a < 9223372036854775808 := ⟨Int64.minValue_le_toInt _, Int64.toInt_lt _⟩
section QLC
variable {G : QW} {md : MD} {R : Room} {F : QFin} {pc : Nat} {ls : List (Nat × Vl)} {st : List Vl} {m : AM} {cc cs : Nat}
theorem j_lc_eq {a b off : Int} {tgt : Nat} (hd : qlk md.c pc = some (.lcmp, 1)) (hd2 : qlk md.c (pc + 1) = some (.ifCond .eq off, 3)) (ht : ((pc + 1 : Nat) : Int) + off = (tgt : Int)) (ha : -9223372036854775808 ≤ a) (ha2 : a < 9223372036854775808) (hb : -9223372036854775808 ≤ b) (hb2 : b < 9223372036854775808) (kt : a = b → qJ G md R F tgt ls st m cc cs) (kf : ¬ a = b → qJ G md R F (pc + 1 + 3) ls st m cc cs) : qJ G md R F pc ls (vL b :: vL a :: st) m cc cs := by
  refine j_lcmp hd ha ha2 hb hb2 ?_
  refine j_if_eq hd2 ht (by split <;> first | decide | (split <;> decide)) (by split <;> first | decide | (split <;> decide)) (fun h => kt ?_) (fun h => kf ?_)
  all_goals (revert h; split <;> first | omega | (split <;> omega))
theorem j_lc_ne {a b off : Int} {tgt : Nat} (hd : qlk md.c pc = some (.lcmp, 1)) (hd2 : qlk md.c (pc + 1) = some (.ifCond .ne off, 3)) (ht : ((pc + 1 : Nat) : Int) + off = (tgt : Int)) (ha : -9223372036854775808 ≤ a) (ha2 : a < 9223372036854775808) (hb : -9223372036854775808 ≤ b) (hb2 : b < 9223372036854775808) (kt : a ≠ b → qJ G md R F tgt ls st m cc cs) (kf : a = b → qJ G md R F (pc + 1 + 3) ls st m cc cs) : qJ G md R F pc ls (vL b :: vL a :: st) m cc cs := by
  refine j_lcmp hd ha ha2 hb hb2 ?_
  refine j_if_ne hd2 ht (by split <;> first | decide | (split <;> decide)) (by split <;> first | decide | (split <;> decide)) (fun h => kt ?_) (fun h => kf ?_)
  all_goals (revert h; split <;> first | omega | (split <;> omega))
theorem j_lc_lt {a b off : Int} {tgt : Nat} (hd : qlk md.c pc = some (.lcmp, 1)) (hd2 : qlk md.c (pc + 1) = some (.ifCond .lt off, 3)) (ht : ((pc + 1 : Nat) : Int) + off = (tgt : Int)) (ha : -9223372036854775808 ≤ a) (ha2 : a < 9223372036854775808) (hb : -9223372036854775808 ≤ b) (hb2 : b < 9223372036854775808) (kt : a < b → qJ G md R F tgt ls st m cc cs) (kf : ¬ a < b → qJ G md R F (pc + 1 + 3) ls st m cc cs) : qJ G md R F pc ls (vL b :: vL a :: st) m cc cs := by
  refine j_lcmp hd ha ha2 hb hb2 ?_
  refine j_if_lt hd2 ht (by split <;> first | decide | (split <;> decide)) (by split <;> first | decide | (split <;> decide)) (fun h => kt ?_) (fun h => kf ?_)
  all_goals (revert h; split <;> first | omega | (split <;> omega))
theorem j_lc_ge {a b off : Int} {tgt : Nat} (hd : qlk md.c pc = some (.lcmp, 1)) (hd2 : qlk md.c (pc + 1) = some (.ifCond .ge off, 3)) (ht : ((pc + 1 : Nat) : Int) + off = (tgt : Int)) (ha : -9223372036854775808 ≤ a) (ha2 : a < 9223372036854775808) (hb : -9223372036854775808 ≤ b) (hb2 : b < 9223372036854775808) (kt : a ≥ b → qJ G md R F tgt ls st m cc cs) (kf : ¬ a ≥ b → qJ G md R F (pc + 1 + 3) ls st m cc cs) : qJ G md R F pc ls (vL b :: vL a :: st) m cc cs := by
  refine j_lcmp hd ha ha2 hb hb2 ?_
  refine j_if_ge hd2 ht (by split <;> first | decide | (split <;> decide)) (by split <;> first | decide | (split <;> decide)) (fun h => kt ?_) (fun h => kf ?_)
  all_goals (revert h; split <;> first | omega | (split <;> omega))
theorem j_lc_gt {a b off : Int} {tgt : Nat} (hd : qlk md.c pc = some (.lcmp, 1)) (hd2 : qlk md.c (pc + 1) = some (.ifCond .gt off, 3)) (ht : ((pc + 1 : Nat) : Int) + off = (tgt : Int)) (ha : -9223372036854775808 ≤ a) (ha2 : a < 9223372036854775808) (hb : -9223372036854775808 ≤ b) (hb2 : b < 9223372036854775808) (kt : a > b → qJ G md R F tgt ls st m cc cs) (kf : ¬ a > b → qJ G md R F (pc + 1 + 3) ls st m cc cs) : qJ G md R F pc ls (vL b :: vL a :: st) m cc cs := by
  refine j_lcmp hd ha ha2 hb hb2 ?_
  refine j_if_gt hd2 ht (by split <;> first | decide | (split <;> decide)) (by split <;> first | decide | (split <;> decide)) (fun h => kt ?_) (fun h => kf ?_)
  all_goals (revert h; split <;> first | omega | (split <;> omega))
theorem j_lc_le {a b off : Int} {tgt : Nat} (hd : qlk md.c pc = some (.lcmp, 1)) (hd2 : qlk md.c (pc + 1) = some (.ifCond .le off, 3)) (ht : ((pc + 1 : Nat) : Int) + off = (tgt : Int)) (ha : -9223372036854775808 ≤ a) (ha2 : a < 9223372036854775808) (hb : -9223372036854775808 ≤ b) (hb2 : b < 9223372036854775808) (kt : a ≤ b → qJ G md R F tgt ls st m cc cs) (kf : ¬ a ≤ b → qJ G md R F (pc + 1 + 3) ls st m cc cs) : qJ G md R F pc ls (vL b :: vL a :: st) m cc cs := by
  refine j_lcmp hd ha ha2 hb hb2 ?_
  refine j_if_le hd2 ht (by split <;> first | decide | (split <;> decide)) (by split <;> first | decide | (split <;> decide)) (fun h => kt ?_) (fun h => kf ?_)
  all_goals (revert h; split <;> first | omega | (split <;> omega))
theorem j_bif_eq {P : Prop} {hP : Decidable P} {off : Int} {tgt : Nat} (hd : qlk md.c pc = some (.ifCond .eq off, 3)) (ht : (pc : Int) + off = (tgt : Int)) (kt : ¬ P → qJ G md R F tgt ls st m cc cs) (kf : P → qJ G md R F (pc + 3) ls st m cc cs) : qJ G md R F pc ls (vI (@ite Int P hP 1 0) :: st) m cc cs := by
  by_cases h : P
  · rw [if_pos h]
    exact j_if_eq hd ht (by decide) (by decide) (fun q => absurd q (by decide)) (fun _ => kf h)
  · rw [if_neg h]
    exact j_if_eq hd ht (by decide) (by decide) (fun _ => kt h) (fun q => absurd rfl q)
theorem j_bif_ne {P : Prop} {hP : Decidable P} {off : Int} {tgt : Nat} (hd : qlk md.c pc = some (.ifCond .ne off, 3)) (ht : (pc : Int) + off = (tgt : Int)) (kt : P → qJ G md R F tgt ls st m cc cs) (kf : ¬ P → qJ G md R F (pc + 3) ls st m cc cs) : qJ G md R F pc ls (vI (@ite Int P hP 1 0) :: st) m cc cs := by
  by_cases h : P
  · rw [if_pos h]
    exact j_if_ne hd ht (by decide) (by decide) (fun _ => kt h) (fun q => absurd q (by decide))
  · rw [if_neg h]
    exact j_if_ne hd ht (by decide) (by decide) (fun q => absurd rfl q) (fun _ => kf h)
theorem j_l2iW {a : Int} (hd : qlk md.c pc = some (.l2i, 1)) (k : qJ G md R F (pc + 1) ls (vI (z_l2i a) :: st) m cc cs) : qJ G md R F pc ls (vL a :: st) m cc cs := by
  refine j_l2i hd ?_
  intro p e s mm args below meth c C H locs lsc hH hz hS hl
  have h := k p e s mm args below meth c C H locs lsc hH hz hS hl
  have e1 : qv G (vI (z_l2i a)) = qv G (vI a) := congrArg Value.int (zi_of _)
  rw [List.map_cons, e1] at h
  exact h
theorem j_idivN {a b : Int} (hd : qlk md.c pc = some (.idiv, 1)) (ha : 0 ≤ a) (ha2 : a < 2147483648) (hb : 0 < b) (hb2 : b < 2147483648) (k : qJ G md R F (pc + 1) ls (vI (a / b) :: st) m cc cs) : qJ G md R F pc ls (vI b :: vI a :: st) m cc cs := by
  refine j_idiv hd (by omega) ha2 (by omega) hb2 (by omega) ?_
  rw [Int.tdiv_eq_ediv_of_nonneg ha]
  exact k
theorem j_iremN {a b : Int} (hd : qlk md.c pc = some (.irem, 1)) (ha : 0 ≤ a) (ha2 : a < 2147483648) (hb : 0 < b) (hb2 : b < 2147483648) (k : qJ G md R F (pc + 1) ls (vI (a % b) :: st) m cc cs) : qJ G md R F pc ls (vI b :: vI a :: st) m cc cs := by
  refine j_irem hd (by omega) ha2 (by omega) hb2 (by omega) ?_
  rw [Int.tmod_eq_emod_of_nonneg ha]
  exact k
end QLC

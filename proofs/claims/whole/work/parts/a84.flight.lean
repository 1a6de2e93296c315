/-! flight(): both sides make one -/
def NF (m A : AM) (nf : Nat) : Prop :=
  (mz A = mz m + 9 ∧ GV m A 4 nf (fun p j => p = 0 ∧ j = 17) ∧ mr A 4 nf = some (mz m) ∧ mi A 0 17 = nf + 1) ∧ FLG A (mz m) ∧
  (∀ j : Nat, mi A (mz m + 1) j = 0) ∧ (∀ j : Nat, mi A (mz m + 2) j = 0) ∧ (∀ j : Nat, mi A (mz m + 3) j = if j < 3 then 99999 else 0) ∧ ∀ j : Nat, mi A (mz m + 4) j = if j < 3 then -1 else 0
theorem fliN_nf {m : AM} (hS : St m) (hI : IM m) (hn : mi m 0 17 < 8) : NF m (fliN m) (mi m 0 17).toNat := by
  have h145 := hS.1
  have h17 := hI.s 0 17 0 8 (by decide)
  have hz : mz (am_new m 3 0) = mz m + 1 := rfl
  have o := flI_old (m := am_new m 3 0) (x := mz m) hz
  have n := flI_new (m := am_new m 3 0) (x := mz m) hz
  have g := (Gw.new m (kd := 3) (len := 0) rfl).trans o
  have k1 : mk (am_new m 3 0) (mz m) = 3 := by rw [mk_amn, if_pos rfl]
  unfold fliN
  generalize flI (am_new m 3 0) (mz m) = A at n g
  have e1 : ∀ p j, ¬ (p = 0 ∧ j = 17) → mi (si (sr A 4 (mi m 0 17).toNat (some (mz m))) 0 17 (mi m 0 17 + 1)) p j = mi A p j := fun p j z => mi_si_ne _ _ z
  have e2 : ∀ p j, mr (si (sr A 4 (mi m 0 17).toNat (some (mz m))) 0 17 (mi m 0 17 + 1)) p j = if p = 4 ∧ j = (mi m 0 17).toNat then some (mz m) else mr A p j := fun p j => by rw [mr_si, mr_sr]
  have e3 : mk (si (sr A 4 (mi m 0 17).toNat (some (mz m))) 0 17 (mi m 0 17 + 1)) = mk A := rfl
  have e4 : mn (si (sr A 4 (mi m 0 17).toNat (some (mz m))) 0 17 (mi m 0 17 + 1)) = mn A := rfl
  have e5 : mz (si (sr A 4 (mi m 0 17).toNat (some (mz m))) 0 17 (mi m 0 17 + 1)) = mz A := rfl
  have e6 : ml (si (sr A 4 (mi m 0 17).toNat (some (mz m))) 0 17 (mi m 0 17 + 1)) = ml A := rfl
  have e7 : mi (si (sr A 4 (mi m 0 17).toNat (some (mz m))) 0 17 (mi m 0 17 + 1)) 0 17 = mi m 0 17 + 1 := mi_si_same _ _ _ (by omega) (by omega)
  generalize si (sr A 4 (mi m 0 17).toNat (some (mz m))) 0 17 (mi m 0 17 + 1) = B at e1 e2 e3 e4 e5 e6 e7
  obtain ⟨n1, n2, n3, n4, n5, n6, n7, n8, n9, n10, r1, r2, r3, r4, r5, r6, r7, r8, v1, v2, v6, v7, v8, v3, v4⟩ := n
  unfold NF
  refine ⟨⟨by rw [e5, n1], ⟨by rw [e5, n1]; omega, fun p hp => by rw [e3, e4]; exact (g.2 p hp).1, fun p j hp hj => by rw [e2, if_neg hj]; exact (g.2 p hp).2.1 j, fun p j hp hj => by rw [e1 p j hj]; exact (g.2 p hp).2.2.1 j, fun p j hp => by rw [e6]; exact (g.2 p hp).2.2.2 j⟩, by rw [e2, if_pos ⟨rfl, rfl⟩], by rw [e7]; omega⟩, ⟨⟨by rw [e5, n1]; omega, by rw [e3, n2, k1], fun r hr => ?_⟩, Or.inr h145, fun k hk => ?_, fun j => ?_, fun j => ?_, fun j => ?_, fun j => ?_, fun k hk j => ?_⟩, fun j => by rw [e1 _ _ (by omega), v1], fun j => by rw [e1 _ _ (by omega), v2], fun j => by rw [e1 _ _ (by omega), v3], fun j => by rw [e1 _ _ (by omega), v4]⟩
  · rw [e2, if_neg (by omega), e3, e4, e5, n1]
    simp only [fsFlight, List.mem_cons, List.not_mem_nil, or_false] at hr
    rcases hr with rfl | rfl | rfl | rfl | rfl
    · exact ⟨r1, by show mz m + 1 < mz m + 9; omega, n3.1, n3.2⟩
    · exact ⟨r2, by show mz m + 2 < mz m + 9; omega, n4.1, n4.2⟩
    · exact ⟨r3, by show mz m + 3 < mz m + 9; omega, n5.1, n5.2⟩
    · exact ⟨r4, by show mz m + 4 < mz m + 9; omega, n6.1, n6.2⟩
    · exact ⟨r5, by show mz m + 5 < mz m + 9; omega, n7.1, n7.2⟩
  · rw [e2, if_neg (by omega), e3, e4, e5, n1]
    rcases (by omega : k = 0 ∨ k = 1 ∨ k = 2) with rfl | rfl | rfl
    · exact ⟨r6, by omega, n8.1, n8.2⟩
    · exact ⟨r7, by omega, n9.1, n9.2⟩
    · exact ⟨r8, by omega, n10.1, n10.2⟩
  · rw [e1 _ _ (by omega), v1]; decide
  · rw [e1 _ _ (by omega), v2]; decide
  · rw [e1 _ _ (by omega), v3]; split <;> decide
  · rw [e1 _ _ (by omega), v4]; split <;> decide
  · rw [e1 _ _ (by omega)]
    rcases (by omega : k = 0 ∨ k = 1 ∨ k = 2) with rfl | rfl | rfl
    · rw [show mz m + 6 + 0 = mz m + 6 from rfl, v6]; decide
    · rw [show mz m + 6 + 1 = mz m + 7 from rfl, v7]; decide
    · rw [show mz m + 6 + 2 = mz m + 8 from rfl, v8]; decide
theorem flight_ok {m A : AM} (h : Inv m) (hn : mi m 0 17 < 8) (hA : NF m A (mi m 0 17).toNat) : St A ∧ IM A ∧ (FX12_flight A).1 = mi m 0 17 ∧ Inv (FX12_flight A).2 := by
  have hS := h.s
  have h145 := hS.1
  have h17 := h.i.s 0 17 0 8 (by decide)
  have e16 : mi m 0 16 = mi m 86 1 := h.1.2.1.1
  have e17 : mi m 0 17 = mi m 86 21 := h.1.2.2.1.1
  obtain ⟨⟨z1, gA, a1, a2⟩, fg, d1, d2, d3, d4⟩ := hA
  have hSA := gA.st (Or.inr rfl) hS
  obtain ⟨n, hn0⟩ : ∃ n : Nat, mi m 0 17 = n := ⟨(mi m 0 17).toNat, by omega⟩
  rw [hn0, Int.toNat_natCast] at gA a1 a2
  have cA : ∀ c j : Nat, c < 145 → ¬ (c = 0 ∧ j = 17) → mi A c j = mi m c j := fun c j a b => gA.c hS a b
  have iA : IM A := by
    refine h.i.rg (fun q hq => ?_) (fun q hq j => ?_) (fun j hj => ?_)
    · by_cases c : q.1 = 0 ∧ q.2.1 = 17
      · have g := (by decide : ∀ q ∈ imS, q.1 = 0 → q.2.1 = 17 → q.2.2 = ((0 : Int), (8 : Int))) q hq c.1 c.2
        refine Or.inr ?_
        rw [c.1, c.2, g, a2]
        show (0 : Int) ≤ n + 1 ∧ (n : Int) + 1 ≤ 8
        omega
      · exact Or.inl (cA _ _ ((by decide : ∀ q ∈ imS, q.1 < 145) q hq) c)
    · have := (by decide : ∀ q ∈ imA, q.1 < 145 ∧ q.1 ≠ 0) q hq
      exact Or.inl (cA _ _ this.1 (by omega))
    · have q := h.i.2.2 j hj
      rw [cA 139 j (by decide) (by omega), cA 86 1 (by decide) (by omega), cA _ 2 (by omega) (by omega), cA 0 16 (by decide) (by omega)]
      exact q
  have f1 : FX12_flight A = (mi m 0 17, si (fil (fil (fil (fil A 101 (3 * (n : Int)) (3 * (n : Int) + 3) 0) 102 (3 * (n : Int)) (3 * (n : Int) + 3) 0) 103 (3 * (n : Int)) (3 * (n : Int) + 3) 99999) 104 (3 * (n : Int)) (3 * (n : Int) + 3) (-1)) 86 21 ((n : Int) + 1)) := by
    have eA : mi A 86 21 = n := by rw [cA 86 21 (by decide) (by omega), ← e17]; exact hn0
    have w3 : mi (si (fil (fil (fil (fil A 101 (3 * (n : Int)) (3 * (n : Int) + 3) 0) 102 (3 * (n : Int)) (3 * (n : Int) + 3) 0) 103 (3 * (n : Int)) (3 * (n : Int) + 3) 99999) 104 (3 * (n : Int)) (3 * (n : Int) + 3) (-1)) 86 21 ((n : Int) + 1)) 86 21 = (n : Int) + 1 := mi_si_same _ _ _ (by omega) (by omega)
    unfold FX12_flight
    rw [eA, if_pos (by omega), w3, hn0]
    rw [show (n : Int) + 1 - 1 = n by omega]
  rw [f1]
  refine ⟨hSA, iA, rfl, ?_⟩
  show Inv (si (fil (fil (fil (fil A 101 (3 * (n : Int)) (3 * (n : Int) + 3) 0) 102 (3 * (n : Int)) (3 * (n : Int) + 3) 0) 103 (3 * (n : Int)) (3 * (n : Int) + 3) 99999) 104 (3 * (n : Int)) (3 * (n : Int) + 3) (-1)) 86 21 ((n : Int) + 1))
  obtain ⟨N, hN⟩ : ∃ N, si (fil (fil (fil (fil A 101 (3 * (n : Int)) (3 * (n : Int) + 3) 0) 102 (3 * (n : Int)) (3 * (n : Int) + 3) 0) 103 (3 * (n : Int)) (3 * (n : Int) + 3) 99999) 104 (3 * (n : Int)) (3 * (n : Int) + 3) (-1)) 86 21 ((n : Int) + 1) = N := ⟨_, rfl⟩
  rw [hN]
  have zN : N.2 = A.2 := by rw [← hN]; rfl
  have vo : ∀ c j : Nat, ¬ (101 ≤ c ∧ c ≤ 104 ∧ 3 * n ≤ j ∧ j < 3 * n + 3) → ¬ (c = 86 ∧ j = 21) → mi N c j = mi A c j := fun c j q1 q4 => by
    rw [← hN, mi_si_ne _ _ q4, mi_fil, if_neg (by omega), mi_fil, if_neg (by omega), mi_fil, if_neg (by omega), mi_fil, if_neg (by omega)]
  have v21 : mi N 86 21 = (n : Int) + 1 := by rw [← hN]; exact mi_si_same _ _ _ (by omega) (by omega)
  have v4 : ∀ j : Nat, 3 * n ≤ j → j < 3 * n + 3 → mi N 101 j = 0 ∧ mi N 102 j = 0 ∧ mi N 103 j = 99999 ∧ mi N 104 j = -1 := fun j j0 j1 => by
    rw [← hN]
    refine ⟨?_, ?_, ?_, ?_⟩
    · rw [mi_si_ne _ _ (by omega), mi_fil, if_neg (by omega), mi_fil, if_neg (by omega), mi_fil, if_neg (by omega), mi_fil, if_pos ⟨rfl, by omega, by omega⟩]; rfl
    · rw [mi_si_ne _ _ (by omega), mi_fil, if_neg (by omega), mi_fil, if_neg (by omega), mi_fil, if_pos ⟨rfl, by omega, by omega⟩]; rfl
    · rw [mi_si_ne _ _ (by omega), mi_fil, if_neg (by omega), mi_fil, if_pos ⟨rfl, by omega, by omega⟩]; rfl
    · rw [mi_si_ne _ _ (by omega), mi_fil, if_pos ⟨rfl, by omega, by omega⟩]; rfl
  clear hN
  have P4 : N.2.2 = A.2.2 := congrArg (fun q => q.2) zN
  have em : ml N = ml A := by
    funext c j
    exact congrArg (fun q : (Nat → Nat → Int) × _ => (zl (q.1 c j)).toInt) zN
  have ek : mk N = mk A := congrArg (fun q => q.2.1) P4
  have en : mn N = mn A := congrArg (fun q => q.2.2.1) P4
  have ez : mz N = mz A := congrArg (fun q => q.2.2.2) P4
  have er : mr N = mr A := mr2 P4
  have gN : GV m N 4 n (fun p j => (p = 0 ∧ j = 17) ∨ (p = 86 ∧ j = 21) ∨ (101 ≤ p ∧ p ≤ 104 ∧ 3 * n ≤ j ∧ j < 3 * n + 3)) :=
    ⟨by rw [ez]; exact gA.1, fun p hp => by rw [ek, en]; exact gA.2.1 p hp, fun p j hp hj => by rw [er]; exact gA.2.2.1 p j hp hj, fun p j hp hj => by rw [vo p j (by omega) (by omega)]; exact gA.2.2.2.1 p j hp (by omega), fun p j hp => by rw [em]; exact gA.2.2.2.2 p j hp⟩
  have hSN := gN.st (Or.inr rfl) hS
  have rest := gN.rest (Or.inr rfl) hS (fun p j z => by omega) h
  have cN : ∀ c j : Nat, c < 145 → ¬ (c = 0 ∧ j = 17) → ¬ (c = 86 ∧ j = 21) → ¬ (101 ≤ c ∧ c ≤ 104 ∧ 3 * n ≤ j ∧ j < 3 * n + 3) → mi N c j = mi m c j := fun c j x1 x2 x3 x4 => gN.c hS x1 (by omega)
  have hiN : ∀ c j : Nat, 145 ≤ c → mi N c j = mi A c j := fun c j hc => vo c j (by omega) (by omega)
  have v017 : mi N 0 17 = (n : Int) + 1 := by rw [vo 0 17 (by omega) (by omega), a2]
  have v016 : mi N 0 16 = mi m 0 16 := cN 0 16 (by omega) (by omega) (by omega) (by omega)
  have v1 : mi N 86 1 = mi m 86 1 := cN 86 1 (by omega) (by omega) (by omega) (by omega)
  have iN : IM N := by
    refine h.i.rg (fun q hq => ?_) (fun q hq j => ?_) (fun j hj => ?_)
    · by_cases c : (q.1 = 0 ∧ q.2.1 = 17) ∨ (q.1 = 86 ∧ q.2.1 = 21)
      · have g := (by decide : ∀ q ∈ imS, (q.1 = 0 ∧ q.2.1 = 17) ∨ (q.1 = 86 ∧ q.2.1 = 21) → q.2.2 = ((0 : Int), (8 : Int))) q hq c
        refine Or.inr ?_
        rw [g]
        rcases c with c | c
        · rw [c.1, c.2, v017]
          show (0 : Int) ≤ n + 1 ∧ (n : Int) + 1 ≤ 8
          omega
        · rw [c.1, c.2, v21]
          show (0 : Int) ≤ n + 1 ∧ (n : Int) + 1 ≤ 8
          omega
      · have := (by decide : ∀ q ∈ imS, q.1 < 145 ∧ ¬ (101 ≤ q.1 ∧ q.1 ≤ 104)) q hq
        exact Or.inl (cN _ _ this.1 (fun z => c (Or.inl z)) (fun z => c (Or.inr z)) (by omega))
    · have := (by decide : ∀ q ∈ imA, q.1 < 145 ∧ q.1 ≠ 0 ∧ q.1 ≠ 86) q hq
      by_cases c1 : 101 ≤ q.1 ∧ q.1 ≤ 104 ∧ 3 * n ≤ j ∧ j < 3 * n + 3
      · have g := (by decide : ∀ q ∈ imA, 101 ≤ q.1 → q.1 ≤ 104 → (q.1 = 101 ∧ q.2 = ((-99999 : Int), (99999 : Int))) ∨ (q.1 = 102 ∧ q.2 = ((-999 : Int), (999 : Int))) ∨ (q.1 = 103 ∧ q.2 = ((0 : Int), (99999 : Int))) ∨ (q.1 = 104 ∧ q.2 = ((-1 : Int), (60 : Int)))) q hq c1.1 c1.2.1
        have w := v4 j c1.2.2.1 c1.2.2.2
        refine Or.inr ?_
        rcases g with ⟨g1, g2⟩ | ⟨g1, g2⟩ | ⟨g1, g2⟩ | ⟨g1, g2⟩
        · rw [g1, g2, w.1]; decide
        · rw [g1, g2, w.2.1]; decide
        · rw [g1, g2, w.2.2.1]; decide
        · rw [g1, g2, w.2.2.2]; decide
      · exact Or.inl (cN _ _ this.1 (by omega) (by omega) c1)
    · have q := h.i.2.2 j hj
      rw [cN 139 j (by omega) (by omega) (by omega) (by omega), cN _ 2 (by omega) (by omega) (by omega) (by omega), v1, v016]
      exact q
  have k0 := h.k0
  have ri : RI N := h.1.1.1.1.ext hSN iN (fun o ho j => by
    have := (by decide : ∀ o ∈ riL, o < 145 ∧ o ≠ 0 ∧ o ≠ 86 ∧ ¬ (101 ≤ o ∧ o ≤ 104)) o ho
    exact cN o j (by omega) (by omega) (by omega) (by omega)) (fun k hk => by
    have := (by decide : ∀ k ∈ riK, k ≠ 21) k hk
    exact cN 86 k (by omega) (by omega) (by omega) (by omega))
  have rs : RS N := by
    obtain ⟨⟨-, r2, r3⟩, -⟩ := h.1.1
    refine ⟨ri, fun b s q0 q1 q2 q3 => ?_, fun j => ?_⟩
    · rw [v1] at q1
      rw [cN 88 _ (by omega) (by omega) (by omega) (by omega)]
      exact r2 b s q0 q1 q2 q3
    · rw [cN 123 _ (by omega) (by omega) (by omega) (by omega), cN 124 _ (by omega) (by omega) (by omega) (by omega)]
      exact r3 j
  have rp : RP N := h.1.1.2.up (fun c j hc => cN c j (by omega) (by omega) (by omega) (by omega)) (by rw [v1]; exact Int.le_refl _) (by rw [v21, ← e17, hn0]; omega)
  have bo : ∀ b : Int, bx N b = bx m b := fun b => gN.bxe hS (by omega)
  have po : ∀ b : Int, 0 ≤ b → b < mi m 0 16 → pg N b = pg m b := fun b b0 b1 => gN.pge (Or.inr rfl) (bo b) (k0.1 b b0 b1).1 (by have := (k0.1 b b0 b1).2.1; omega)
  have fn : fl N n = mz m := by
    unfold fl
    rw [Int.toNat_natCast, er, a1]
    rfl
  have fo : ∀ f : Int, 0 ≤ f → f < n → fl N f = fl m f := fun f f0 f1 => gN.fle hS (by omega)
  have ew : wN N = wN m := wN_rows (fun o ho j => by
    have := (by decide : ∀ o ∈ ([87, 88, 89, 91, 92, 93, 94, 95, 96, 97, 98, 99] : List Nat), 87 ≤ o ∧ o ≤ 99) o ho
    exact cN o j (by omega) (by omega) (by omega) (by omega)) v1
  have k1 : K1 N := by
    refine ⟨by rw [v016, v1]; exact e16, fun b b0 b1 => ?_⟩
    rw [v1] at b1
    have q := h.1.2.1.2 b b0 b1
    have B1 := (k0.1 b b0 (by omega)).1
    have B2 := (k0.1 b b0 (by omega)).2.1
    rw [ew]
    refine ⟨gN.agB (Or.inr rfl) hS (fun p j z => by omega) (by omega) B2 (k0.pz hS ⟨b0, by omega⟩) q.1, ?_⟩
    rw [bo, gN.2.2.2.1 _ _ (by omega) (by omega), cN 90 _ (by omega) (by omega) (by omega) (by omega)]
    exact q.2
  have agO : ∀ f : Int, 0 ≤ f → f < n → ∀ x : Nat, x < 3 → mi N (fl m f + 1) x = mi N 101 ((3 * f) + x).toNat ∧ mi N (fl m f + 2) x = mi N 102 ((3 * f) + x).toNat ∧ mi N (fl m f + 3) x = mi N 103 ((3 * f) + x).toNat ∧ mi N (fl m f + 4) x = mi N 104 ((3 * f) + x).toNat ∧ ∀ j : Nat, (j : Int) < mi N (fl m f + 4) x → mi N (fl m f + 6 + x) j = mi N 105 ((200 * ((3 * f) + x)) + j).toNat := fun f f0 f1 x hx => by
    obtain ⟨t1, t2, t3, t4, t5⟩ := (h.1.2.2.1.2 f f0 (by omega)).2.2 x hx
    have F1 := (k0.2.2.1 f f0 (by omega)).1
    have F2 := (k0.2.2.1 f f0 (by omega)).2
    have hf : ∀ r j : Nat, r < 9 → mi N (fl m f + r) j = mi m (fl m f + r) j := fun r j hr => gN.2.2.2.1 _ _ (by omega) (by omega)
    rw [hf 1 _ (by omega), hf 2 _ (by omega), hf 3 _ (by omega), hf 4 _ (by omega), cN 101 _ (by omega) (by omega) (by omega) (by omega), cN 102 _ (by omega) (by omega) (by omega) (by omega), cN 103 _ (by omega) (by omega) (by omega) (by omega), cN 104 _ (by omega) (by omega) (by omega) (by omega)]
    refine ⟨t1, t2, t3, t4, fun j hj => ?_⟩
    rw [Nat.add_assoc, hf _ _ (by omega), ← Nat.add_assoc, cN 105 _ (by omega) (by omega) (by omega) (by omega)]
    exact t5 j hj
  have k2 : K2 N := by
    refine ⟨by rw [v017, v21], fun f f0 f1 => ?_⟩
    rw [v21] at f1
    unfold AgF
    by_cases y : f = n
    · rw [y, fn, Int.toNat_natCast]
      refine ⟨⟨by rw [er]; exact a1, h145⟩, fg.same P4 (fun r j _ => hiN _ _ (by omega)), fun x hx => ?_⟩
      have w := v4 ((3 * (n : Int)) + x).toNat (by omega) (by omega)
      rw [hiN (mz m + 1) _ (by omega), hiN (mz m + 2) _ (by omega), hiN (mz m + 3) _ (by omega), hiN (mz m + 4) _ (by omega), d1, d2, d3, d4, if_pos hx, if_pos hx, w.1, w.2.1, w.2.2.1, w.2.2.2]
      exact ⟨rfl, rfl, rfl, rfl, fun j hj => by omega⟩
    · have q := h.1.2.2.1.2 f f0 (by omega)
      have F2 := (k0.2.2.1 f f0 (by omega)).2
      rw [fo f f0 (by omega)]
      exact ⟨⟨(gN.2.2.1 4 _ (by omega) (by omega)).trans q.1.1, q.1.2⟩, gN.flg (Or.inr rfl) (fun p j z => by omega) F2 q.2.1, agO f f0 (by omega)⟩
  refine ⟨⟨⟨rs, rp⟩, k1, k2, rest.1, rest.2.1, rest.2.2.1⟩, ?_, ?_, rest.2.2.2.1, rest.2.2.2.2.1, rest.2.2.2.2.2.1, rest.2.2.2.2.2.2.1, rest.2.2.2.2.2.2.2.1, rest.2.2.2.2.2.2.2.2.1, rest.2.2.2.2.2.2.2.2.2.1, rest.2.2.2.2.2.2.2.2.2.2, ?_, ?_⟩
  · -- K0
    obtain ⟨g1, g2, g3, g4, g5, q, g6, g7, g8⟩ := k0
    have zN9 : mz N = mz m + 9 := by rw [ez, z1]
    refine ⟨fun b b0 b1 => ?_, fun b c b0 b1 c0 c1 bc => ?_, fun f f0 f1 => ?_, fun f g f0 f1 g0 g1' fg => ?_, fun b f b0 b1 f0 f1 => ?_, q, ?_, ?_, fun b b0 b1 => ?_⟩
    · rw [v016] at b1 ⊢
      have B := g1 b b0 b1
      rw [bo, po b b0 b1, zN9]
      refine ⟨B.1, by have := B.2.1; omega, ?_⟩
      rcases B.2.2 with w | ⟨c, c0, c1, w⟩
      · exact Or.inl w
      · exact Or.inr ⟨c, c0, c1, by rw [bo]; exact w⟩
    · rw [v016] at b1 c1
      rw [bo, po b b0 b1, bo, po c c0 c1]
      exact g2 b c b0 b1 c0 c1 bc
    · rw [v017] at f1
      rw [zN9]
      by_cases y : f = n
      · rw [y, fn]; exact ⟨h145, Nat.le_refl _⟩
      · have F := g3 f f0 (by omega)
        rw [fo f f0 (by omega)]
        exact ⟨F.1, by omega⟩
    · rw [v017] at f1 g1'
      by_cases y : f = n
      · by_cases y2 : g = n
        · omega
        · have w := g3 g g0 (by omega)
          rw [y, fn, fo g g0 (by omega)]
          exact Or.inr w.2
      · by_cases y2 : g = n
        · have w := g3 f f0 (by omega)
          rw [y2, fn, fo f f0 (by omega)]
          exact Or.inl w.2
        · rw [fo f f0 (by omega), fo g g0 (by omega)]
          exact g4 f g f0 (by omega) g0 (by omega) fg
    · rw [v016] at b1
      rw [v017] at f1
      rw [bo]
      by_cases y : f = n
      · have w := (g1 b b0 b1).2.1
        rw [y, fn]
        exact Or.inl w
      · rw [fo f f0 (by omega)]
        exact g5 b f b0 b1 f0 (by omega)
    · rw [gN.2.2.1 0 15 (by omega) (by omega)]
      exact g6
    · rw [v016]
      rcases g7 with w | ⟨c, c0, c1, w⟩
      · exact Or.inl w
      · exact Or.inr ⟨c, c0, c1, by rw [bo]; exact w⟩
    · rw [v016] at b1
      rw [po b b0 b1]
      exact g8 b b0 b1
  · -- K3
    intro b b0 b1
    rw [v016] at b1
    have g := h.k3 b b0 b1
    have B := k0.pz hS (b := b) ⟨b0, b1⟩
    have pr := (h.1.2.1.2 b b0 (by omega)).1.2.1.2
    rw [po b b0 b1, gN.2.2.2.1 (pg m b) 5 (by omega) (by omega), ew]
    exact g
  · intro b b0 b1
    rw [v1] at b0
    rw [cN 91 _ (by omega) (by omega) (by omega) (by omega), cN 90 _ (by omega) (by omega) (by omega) (by omega)]
    exact h.kb b b0 b1
  · have z := h.kz
    unfold KZ at z ⊢
    rw [v016, v017, ez, z1]
    refine ⟨⟨by have := z.1.1; omega, z.1.2.gv k0 hS gN (Or.inr rfl)⟩, fun b b0 b1 s hs => ?_⟩
    rw [v016] at b1
    have B1 := (k0.1 b b0 b1).1
    have B2 := (k0.1 b b0 b1).2.1
    rw [bo, gN.2.2.2.1 _ _ (by omega) (by omega), cN 88 _ (by omega) (by omega) (by omega) (by omega)]
    exact z.2 b b0 b1 s hs
theorem ag_flight1 {G : QW} {m : AM} (h : Inv m) (hg : mi m 0 17 < 8) : AG G mX11_flight mX12_flight 2 0 9 200 [] m := by
  refine (cr_flight1 h.s h.i hg).mono (fun r N q => ?_)
  obtain ⟨e2, e1⟩ := q
  rw [e1]
  obtain ⟨s1, s2, s3, s4⟩ := flight_ok h hg (fliN_nf h.s h.i hg)
  exact ⟨_, e2, rfl, s1, (ct_X12_flight s1 s2).mono (fun r2 m2 p => ⟨by rw [p.1, s3], by rw [p.2]; exact s4⟩)⟩
theorem ag_flight0 {G : QW} {m : AM} (h : Inv m) (hg : ¬ mi m 0 17 < 8) : AG G mX11_flight mX12_flight 2 0 0 0 [] m := by
  have h17 := h.i.s 0 17 0 8 (by decide)
  have e17 : mi m 0 17 = mi m 86 21 := h.1.2.2.1.1
  refine (cr_flight0 h.s h.i hg).mono (fun r N q => ?_)
  obtain ⟨e2, e1⟩ := q
  rw [e1]
  refine ⟨_, e2, rfl, h.s, (ct_X12_flight h.s h.i).mono (fun r2 m2 p => ?_)⟩
  have e : FX12_flight m = (-3, m) := by
    unfold FX12_flight
    rw [if_neg (by omega)]
  rw [e] at p
  exact ⟨p.1, by rw [p.2]; exact h⟩

/-! box(): both sides make one -/
def NB (m A : AM) (k : Int) (nb : Nat) : Prop :=
  (mz A = mz m + 9 ∧ GV m A 3 nb (fun p j => p = 0 ∧ j = 16) ∧ mr A 3 nb = some (mz m) ∧ mi A 0 16 = nb + 1) ∧
  (ObA A (mz m) 1 fsBox ∧ mr A (mz m) 4 = some (mz m + 3) ∧ ObA A (mz m + 3) 5 fsProg) ∧ (mi A (mz m) 0 = nb ∧ mi A (mz m) 1 = k ∧ mi A (mz m) 5 = -1) ∧
  (∀ j : Nat, mi A (mz m + 1) j = if j < 8 then 16 else 0) ∧ (∀ j : Nat, mi A (mz m + 2) j = if j < 4 then -1 else 0) ∧ ∀ j : Nat, mi A (mz m + 3) j = 0
theorem boxN_nb {m : AM} {k : Int} (hS : St m) (hI : IM m) (hk : 0 ≤ k ∧ k ≤ 6) (hn : mi m 0 16 < 6) : NB m (boxN m k) k (mi m 0 16).toNat := by
  have h145 := hS.1
  have h16 := hI.s 0 16 0 6 (by decide)
  have hz : mz (am_new m 1 0) = mz m + 1 := rfl
  have o := bxI_old (m := am_new m 1 0) (x := mz m) (nu := mi m 0 16) (kd := k) hz
  have n := bxI_new (m := am_new m 1 0) (x := mz m) (nu := mi m 0 16) (kd := k) hz
  have g := (Gw.new m (kd := 1) (len := 0) rfl).trans o
  have k1 : mk (am_new m 1 0) (mz m) = 1 := by rw [mk_amn, if_pos rfl]
  unfold boxN
  generalize bxI (am_new m 1 0) (mz m) (mi m 0 16) k = A at n g
  have e1 : ∀ p j, ¬ (p = 0 ∧ j = 16) → mi (si (sr A 3 (mi m 0 16).toNat (some (mz m))) 0 16 (mi m 0 16 + 1)) p j = mi A p j := fun p j z => mi_si_ne _ _ z
  have e2 : ∀ p j, mr (si (sr A 3 (mi m 0 16).toNat (some (mz m))) 0 16 (mi m 0 16 + 1)) p j = if p = 3 ∧ j = (mi m 0 16).toNat then some (mz m) else mr A p j := fun p j => by rw [mr_si, mr_sr]
  have e3 : mk (si (sr A 3 (mi m 0 16).toNat (some (mz m))) 0 16 (mi m 0 16 + 1)) = mk A := rfl
  have e4 : mn (si (sr A 3 (mi m 0 16).toNat (some (mz m))) 0 16 (mi m 0 16 + 1)) = mn A := rfl
  have e5 : mz (si (sr A 3 (mi m 0 16).toNat (some (mz m))) 0 16 (mi m 0 16 + 1)) = mz A := rfl
  have e6 : ml (si (sr A 3 (mi m 0 16).toNat (some (mz m))) 0 16 (mi m 0 16 + 1)) = ml A := rfl
  have e7 : mi (si (sr A 3 (mi m 0 16).toNat (some (mz m))) 0 16 (mi m 0 16 + 1)) 0 16 = mi m 0 16 + 1 := mi_si_same _ _ _ (by omega) (by omega)
  generalize si (sr A 3 (mi m 0 16).toNat (some (mz m))) 0 16 (mi m 0 16 + 1) = B at e1 e2 e3 e4 e5 e6 e7
  obtain ⟨n1, n2, n3, n4, n5, n6, n7, n8, n9, n10, r1, r2, r3, r4, r5, r6, r7, r8, ⟨v1, v2, v3⟩, v4, v5, v6, -⟩ := n
  rw [zi_toInt (by omega) (by omega)] at v1 v2
  unfold NB
  refine ⟨⟨by rw [e5, n1], ⟨by rw [e5, n1]; omega, fun p hp => by rw [e3, e4]; exact (g.2 p hp).1, fun p j hp hj => by rw [e2, if_neg hj]; exact (g.2 p hp).2.1 j, fun p j hp hj => by rw [e1 p j hj]; exact (g.2 p hp).2.2.1 j, fun p j hp => by rw [e6]; exact (g.2 p hp).2.2.2 j⟩, by rw [e2, if_pos ⟨rfl, rfl⟩], by rw [e7]; omega⟩, ⟨⟨by rw [e5, n1]; omega, by rw [e3, n2, k1], fun r hr => ?_⟩, by rw [e2, if_neg (by omega)]; exact r3, ⟨by rw [e5, n1]; omega, by rw [e3]; exact n10, fun r hr => ?_⟩⟩, ⟨by rw [e1 _ _ (by omega), v1]; omega, by rw [e1 _ _ (by omega), v2], by rw [e1 _ _ (by omega), v3]⟩, fun j => by rw [e1 _ _ (by omega), v4], fun j => by rw [e1 _ _ (by omega), v5], fun j => by rw [e1 _ _ (by omega), v6]⟩
  · rw [e2, if_neg (by omega), e3, e4, e5, n1]
    simp only [fsBox, List.mem_cons, List.not_mem_nil, or_false] at hr
    rcases hr with rfl | rfl
    · exact ⟨r1, by show mz m + 1 < mz m + 9; omega, n3.1, n3.2⟩
    · exact ⟨r2, by show mz m + 2 < mz m + 9; omega, n4.1, n4.2⟩
  · rw [e2, if_neg (by omega), e3, e4, e5, n1]
    simp only [fsProg, List.mem_cons, List.not_mem_nil, or_false] at hr
    rcases hr with rfl | rfl | rfl | rfl | rfl
    · exact ⟨r4, by show mz m + 3 + 1 < mz m + 9; omega, n5.1, n5.2⟩
    · exact ⟨r5, by show mz m + 3 + 2 < mz m + 9; omega, n6.1, n6.2⟩
    · exact ⟨r6, by show mz m + 3 + 3 < mz m + 9; omega, n7.1, n7.2⟩
    · exact ⟨r7, by show mz m + 3 + 4 < mz m + 9; omega, n8.1, n8.2⟩
    · exact ⟨r8, by show mz m + 3 + 5 < mz m + 9; omega, n9.1, n9.2⟩
theorem RI.more {m N : AM} (h : RI m) (hS : St N) (hI : IM N) (h1 : ∀ o ∈ ([106, 107, 108, 109, 110, 111, 112, 114, 91, 94, 95, 96, 97, 98, 99] : List Nat), ∀ j : Nat, mi N o j = mi m o j) (h2 : ∀ k ∈ ([35, 36, 37, 38, 39, 40, 45] : List Nat), mi N 86 k = mi m 86 k) (hn : mi N 86 1 = mi m 86 1 + 1) (h91 : mi m 91 (mi m 86 1).toNat = 0) (h89 : ∀ j : Nat, mi N 89 j ≥ 0 → mi N 89 j % 10 ≤ 3) (h88 : ∀ j : Nat, mi N 88 j = mi m 88 j ∨ (2 ≤ mi N 88 j ∧ mi N 88 j ≤ 20)) : RI N := by
  obtain ⟨⟨⟨a, b', c, d, e, f, g, i, w⟩, r, t⟩, ⟨u, v, x⟩, y, z⟩ := h
  have ecd : cdX N = cdX m := by
    unfold cdX
    funext k
    rw [h1 98 (by decide), h1 99 (by decide)]
  refine ⟨⟨⟨hS, hI, fun j => ?_, fun j => ?_, fun j => ?_, fun j => ?_, ?_, ?_, h89⟩, fun j => ?_, fun j => ?_⟩, ⟨fun j => ?_, fun j => ?_, fun k k1 k2 => ?_⟩, ?_, fun b j h0 hb hj hj2 => ?_⟩
  · rw [h1 110 (by decide)]; exact c j
  · rw [h1 106 (by decide)]; exact d j
  · rw [h1 109 (by decide)]; exact e j
  · rw [h1 114 (by decide)]; exact f j
  · rw [h2 39 (by decide)]; exact g
  · rw [h2 40 (by decide)]; exact i
  · rw [h1 107 (by decide)]; exact r j
  · rw [h1 108 (by decide)]; exact t j
  · rw [h1 111 (by decide)]; exact u j
  · rw [h1 112 (by decide)]; exact v j
  · have hk : k = 35 ∨ k = 36 ∨ k = 37 ∨ k = 38 := by omega
    rcases hk with rfl | rfl | rfl | rfl
    · rw [h2 35 (by decide)]; exact x 35 k1 k2
    · rw [h2 36 (by decide)]; exact x 36 k1 k2
    · rw [h2 37 (by decide)]; exact x 37 k1 k2
    · rw [h2 38 (by decide)]; exact x 38 k1 k2
  · rw [h2 45 (by decide)]; exact y
  · rw [hn] at hb
    rw [h1 91 (by decide)] at hj2
    by_cases q : b = mi m 86 1
    · rw [q, h91] at hj2; omega
    · have l := z b j h0 (by omega) hj hj2
      unfold LK at l ⊢
      rw [ecd, h1 94 (by decide), h1 95 (by decide), h1 96 (by decide), h1 97 (by decide)]
      refine ⟨l.1, l.2.1, l.2.2.1, fun q => ?_⟩
      have k := l.2.2.2 q
      refine ⟨k.1, ?_⟩
      rcases h88 ((8 * b) + mi m 94 ((12 * b) + j).toNat).toNat with w | w
      · rw [w]; exact k.2
      · exact w
theorem box_ok {m A : AM} {k : Int} (h : Inv m) (hk : 0 ≤ k ∧ k ≤ 6) (hn : mi m 0 16 < 6) (hA : NB m A k (mi m 0 16).toNat) : St A ∧ IM A ∧ (FX12_box A k).1 = mi m 0 16 ∧ Inv (FX12_box A k).2 := by
  have hS := h.s
  have h145 := hS.1
  have h16 := h.i.s 0 16 0 6 (by decide)
  have e16 : mi m 0 16 = mi m 86 1 := h.1.2.1.1
  have e17 : mi m 0 17 = mi m 86 21 := h.1.2.2.1.1
  obtain ⟨⟨z1, gA, a1, a2⟩, ⟨b1, b2, b3⟩, ⟨c1, c2, c3⟩, d1, d2, d3⟩ := hA
  have hSA := gA.st (Or.inl rfl) hS
  obtain ⟨n, hn0⟩ : ∃ n : Nat, mi m 0 16 = n := ⟨(mi m 0 16).toNat, by omega⟩
  rw [hn0, Int.toNat_natCast] at gA a1 a2 c1
  have cA : ∀ c j : Nat, c < 145 → ¬ (c = 0 ∧ j = 16) → mi A c j = mi m c j := fun c j a b => gA.c hS a b
  have iA : IM A := by
    refine h.i.rg (fun q hq => ?_) (fun q hq j => ?_) (fun j hj => ?_)
    · by_cases c : q.1 = 0 ∧ q.2.1 = 16
      · have g := (by decide : ∀ q ∈ imS, q.1 = 0 → q.2.1 = 16 → q.2.2 = ((0 : Int), (6 : Int))) q hq c.1 c.2
        refine Or.inr ?_
        rw [c.1, c.2, g, a2]
        show (0 : Int) ≤ n + 1 ∧ (n : Int) + 1 ≤ 6
        omega
      · exact Or.inl (cA _ _ ((by decide : ∀ q ∈ imS, q.1 < 145) q hq) c)
    · have := (by decide : ∀ q ∈ imA, q.1 < 145 ∧ q.1 ≠ 0) q hq
      exact Or.inl (cA _ _ this.1 (by omega))
    · have q := h.i.2.2 j hj
      rw [cA 139 j (by decide) (by omega), cA 86 1 (by decide) (by omega), cA _ 2 (by omega) (by omega), a2]
      omega
  -- the reference's box
  have f1 : FX12_box A k = (mi m 0 16, si (fil (fil (si A 87 n k) 88 (8 * (n : Int)) (8 * (n : Int) + 8) 16) 89 (4 * (n : Int)) (4 * (n : Int) + 4) (-1)) 86 1 ((n : Int) + 1)) := by
    have eA : mi A 86 1 = n := by rw [cA 86 1 (by decide) (by omega), ← e16]; exact hn0
    have w1 : mi (si A 87 n k) 86 1 = n := by rw [mi_si_ne _ _ (by omega)]; exact eA
    have w2 : mi (fil (si A 87 n k) 88 (8 * (n : Int)) (8 * (n : Int) + 8) 16) 86 1 = n := by rw [mi_fil, if_neg (by omega)]; exact w1
    have w3 : mi (si (fil (fil (si A 87 n k) 88 (8 * (n : Int)) (8 * (n : Int) + 8) 16) 89 (4 * (n : Int)) (4 * (n : Int) + 4) (-1)) 86 1 ((n : Int) + 1)) 86 1 = (n : Int) + 1 := mi_si_same _ _ _ (by omega) (by omega)
    unfold FX12_box
    rw [if_pos hk, eA, if_pos (by omega), Int.toNat_natCast, w1, w2, w3, hn0]
    rw [show (n : Int) + 1 - 1 = n by omega]
  rw [f1]
  refine ⟨hSA, iA, rfl, ?_⟩
  show Inv (si (fil (fil (si A 87 n k) 88 (8 * (n : Int)) (8 * (n : Int) + 8) 16) 89 (4 * (n : Int)) (4 * (n : Int) + 4) (-1)) 86 1 ((n : Int) + 1))
  have zN : (si (fil (fil (si A 87 n k) 88 (8 * (n : Int)) (8 * (n : Int) + 8) 16) 89 (4 * (n : Int)) (4 * (n : Int) + 4) (-1)) 86 1 ((n : Int) + 1)).2 = A.2 := rfl
  have vo : ∀ c j : Nat, ¬ (c = 87 ∧ j = n) → ¬ (c = 88 ∧ 8 * n ≤ j ∧ j < 8 * n + 8) → ¬ (c = 89 ∧ 4 * n ≤ j ∧ j < 4 * n + 4) → ¬ (c = 86 ∧ j = 1) → mi (si (fil (fil (si A 87 n k) 88 (8 * (n : Int)) (8 * (n : Int) + 8) 16) 89 (4 * (n : Int)) (4 * (n : Int) + 4) (-1)) 86 1 ((n : Int) + 1)) c j = mi A c j := fun c j q1 q2 q3 q4 => by
    rw [mi_si_ne _ _ q4, mi_fil, if_neg (by omega), mi_fil, if_neg (by omega), mi_si_ne _ _ q1]
  have v1 : mi (si (fil (fil (si A 87 n k) 88 (8 * (n : Int)) (8 * (n : Int) + 8) 16) 89 (4 * (n : Int)) (4 * (n : Int) + 4) (-1)) 86 1 ((n : Int) + 1)) 86 1 = (n : Int) + 1 := mi_si_same _ _ _ (by omega) (by omega)
  have v87 : mi (si (fil (fil (si A 87 n k) 88 (8 * (n : Int)) (8 * (n : Int) + 8) 16) 89 (4 * (n : Int)) (4 * (n : Int) + 4) (-1)) 86 1 ((n : Int) + 1)) 87 n = k := by
    rw [mi_si_ne _ _ (by omega), mi_fil, if_neg (by omega), mi_fil, if_neg (by omega), mi_si_same _ _ _ (by omega) (by omega)]
  have v88 : ∀ j : Nat, 8 * n ≤ j → j < 8 * n + 8 → mi (si (fil (fil (si A 87 n k) 88 (8 * (n : Int)) (8 * (n : Int) + 8) 16) 89 (4 * (n : Int)) (4 * (n : Int) + 4) (-1)) 86 1 ((n : Int) + 1)) 88 j = 16 := fun j j0 j1 => by
    rw [mi_si_ne _ _ (by omega), mi_fil, if_neg (by omega), mi_fil, if_pos ⟨rfl, by omega, by omega⟩]
    rfl
  have v89 : ∀ j : Nat, 4 * n ≤ j → j < 4 * n + 4 → mi (si (fil (fil (si A 87 n k) 88 (8 * (n : Int)) (8 * (n : Int) + 8) 16) 89 (4 * (n : Int)) (4 * (n : Int) + 4) (-1)) 86 1 ((n : Int) + 1)) 89 j = -1 := fun j j0 j1 => by
    rw [mi_si_ne _ _ (by omega), mi_fil, if_pos ⟨rfl, by omega, by omega⟩]
    rfl
  generalize si (fil (fil (si A 87 n k) 88 (8 * (n : Int)) (8 * (n : Int) + 8) 16) 89 (4 * (n : Int)) (4 * (n : Int) + 4) (-1)) 86 1 ((n : Int) + 1) = N at zN vo v1 v87 v88 v89
  have P4 : N.2.2 = A.2.2 := congrArg (fun q => q.2) zN
  have em : ml N = ml A := by
    funext c j
    exact congrArg (fun q : (Nat → Nat → Int) × _ => (zl (q.1 c j)).toInt) zN
  have ek : mk N = mk A := congrArg (fun q => q.2.1) P4
  have en : mn N = mn A := congrArg (fun q => q.2.2.1) P4
  have ez : mz N = mz A := congrArg (fun q => q.2.2.2) P4
  have er : mr N = mr A := mr2 P4
  have gN : GV m N 3 n (fun p j => (p = 0 ∧ j = 16) ∨ (p = 86 ∧ j = 1) ∨ (p = 87 ∧ j = n) ∨ (p = 88 ∧ 8 * n ≤ j ∧ j < 8 * n + 8) ∨ (p = 89 ∧ 4 * n ≤ j ∧ j < 4 * n + 4)) :=
    ⟨by rw [ez]; exact gA.1, fun p hp => by rw [ek, en]; exact gA.2.1 p hp, fun p j hp hj => by rw [er]; exact gA.2.2.1 p j hp hj, fun p j hp hj => by rw [vo p j (by omega) (by omega) (by omega) (by omega)]; exact gA.2.2.2.1 p j hp (by omega), fun p j hp => by rw [em]; exact gA.2.2.2.2 p j hp⟩
  have hSN := gN.st (Or.inl rfl) hS
  have rest := gN.rest (Or.inl rfl) hS (fun p j z => by omega) h
  have cN : ∀ c j : Nat, c < 145 → ¬ (c = 0 ∧ j = 16) → ¬ (c = 86 ∧ j = 1) → ¬ (c = 87 ∧ j = n) → ¬ (c = 88 ∧ 8 * n ≤ j ∧ j < 8 * n + 8) → ¬ (c = 89 ∧ 4 * n ≤ j ∧ j < 4 * n + 4) → mi N c j = mi m c j := fun c j x1 x2 x3 x4 x5 x6 => gN.c hS x1 (by omega)
  have hiN : ∀ c j : Nat, 145 ≤ c → mi N c j = mi A c j := fun c j hc => vo c j (by omega) (by omega) (by omega) (by omega)
  have v016 : mi N 0 16 = (n : Int) + 1 := by rw [vo 0 16 (by omega) (by omega) (by omega) (by omega), a2]
  have v017 : mi N 0 17 = mi m 0 17 := cN 0 17 (by omega) (by omega) (by omega) (by omega) (by omega) (by omega)
  have iN : IM N := by
    refine h.i.rg (fun q hq => ?_) (fun q hq j => ?_) (fun j hj => ?_)
    · by_cases c : (q.1 = 0 ∧ q.2.1 = 16) ∨ (q.1 = 86 ∧ q.2.1 = 1)
      · have g := (by decide : ∀ q ∈ imS, (q.1 = 0 ∧ q.2.1 = 16) ∨ (q.1 = 86 ∧ q.2.1 = 1) → q.2.2 = ((0 : Int), (6 : Int))) q hq c
        refine Or.inr ?_
        rw [g]
        rcases c with c | c
        · rw [c.1, c.2, v016]
          show (0 : Int) ≤ n + 1 ∧ (n : Int) + 1 ≤ 6
          omega
        · rw [c.1, c.2, v1]
          show (0 : Int) ≤ n + 1 ∧ (n : Int) + 1 ≤ 6
          omega
      · have := (by decide : ∀ q ∈ imS, q.1 < 145 ∧ q.1 ≠ 87 ∧ q.1 ≠ 88 ∧ q.1 ≠ 89) q hq
        exact Or.inl (cN _ _ this.1 (fun z => c (Or.inl z)) (fun z => c (Or.inr z)) (by omega) (by omega) (by omega))
    · have := (by decide : ∀ q ∈ imA, q.1 < 145 ∧ q.1 ≠ 0 ∧ q.1 ≠ 86) q hq
      by_cases c1 : q.1 = 87 ∧ j = n
      · have g := (by decide : ∀ q ∈ imA, q.1 = 87 → q.2 = ((0 : Int), (6 : Int))) q hq c1.1
        refine Or.inr ?_
        rw [c1.1, c1.2, g, v87]
        exact hk
      · by_cases c2 : q.1 = 88 ∧ 8 * n ≤ j ∧ j < 8 * n + 8
        · have g := (by decide : ∀ q ∈ imA, q.1 = 88 → q.2 = ((0 : Int), (20 : Int))) q hq c2.1
          refine Or.inr ?_
          rw [c2.1, g, v88 j c2.2.1 c2.2.2]
          decide
        · by_cases c3 : q.1 = 89 ∧ 4 * n ≤ j ∧ j < 4 * n + 4
          · have g := (by decide : ∀ q ∈ imA, q.1 = 89 → q.2 = ((-1 : Int), (53 : Int))) q hq c3.1
            refine Or.inr ?_
            rw [c3.1, g, v89 j c3.2.1 c3.2.2]
            decide
          · exact Or.inl (cN _ _ this.1 (by omega) (by omega) c1 c2 c3)
    · have q := h.i.2.2 j hj
      rw [cN 139 j (by omega) (by omega) (by omega) (by omega) (by omega) (by omega), cN _ 2 (by omega) (by omega) (by omega) (by omega) (by omega) (by omega), v1, v016]
      omega
  have k0 := h.k0
  have nb1 : mi m 86 1 = n := by rw [← e16]; exact hn0
  have kb := h.kb n (by omega) (by omega)
  rw [Int.toNat_natCast] at kb
  have r88 : ∀ j : Nat, mi N 88 j = mi m 88 j ∨ (2 ≤ mi N 88 j ∧ mi N 88 j ≤ 20) := fun j => by
    by_cases c : 8 * n ≤ j ∧ j < 8 * n + 8
    · rw [v88 j c.1 c.2]; exact Or.inr (by decide)
    · exact Or.inl (cN _ _ (by omega) (by omega) (by omega) (by omega) (by omega) (by omega))
  have ri : RI N := h.1.1.1.1.more hSN iN (fun o ho j => by
    have := (by decide : ∀ o ∈ ([106, 107, 108, 109, 110, 111, 112, 114, 91, 94, 95, 96, 97, 98, 99] : List Nat), o < 145 ∧ 89 < o) o ho
    exact cN o j (by omega) (by omega) (by omega) (by omega) (by omega) (by omega)) (fun k hk => by
    have := (by decide : ∀ k ∈ ([35, 36, 37, 38, 39, 40, 45] : List Nat), k ≠ 1) k hk
    exact cN 86 k (by omega) (by omega) (by omega) (by omega) (by omega) (by omega)) (by rw [v1, nb1]) (by rw [nb1, Int.toNat_natCast]; exact kb.1) (fun j => by
    by_cases c : 4 * n ≤ j ∧ j < 4 * n + 4
    · rw [v89 j c.1 c.2]; omega
    · rw [cN 89 j (by omega) (by omega) (by omega) (by omega) (by omega) (by omega)]; exact h.w89 j) r88
  have rs : RS N := by
    obtain ⟨⟨-, r2, r3⟩, -⟩ := h.1.1
    refine ⟨ri, fun b s q0 q1 q2 q3 => ?_, fun j => ?_⟩
    · rw [v1] at q1
      by_cases c : b = n
      · rw [c, v88 _ (by omega) (by omega)]; decide
      · rw [cN 88 _ (by omega) (by omega) (by omega) (by omega) (by omega) (by omega)]
        exact r2 b s q0 (by omega) q2 q3
    · rw [cN 123 _ (by omega) (by omega) (by omega) (by omega) (by omega) (by omega), cN 124 _ (by omega) (by omega) (by omega) (by omega) (by omega) (by omega)]
      exact r3 j
  have rp : RP N := h.1.1.2.up (fun c j hc => cN c j (by omega) (by omega) (by omega) (by omega) (by omega) (by omega)) (by rw [v1, nb1]; omega) (by rw [cN 86 21 (by omega) (by omega) (by omega) (by omega) (by omega) (by omega)]; exact Int.le_refl _)
  -- where the boxes lie
  have bo : ∀ b : Int, 0 ≤ b → b < n → bx N b = bx m b := fun b b0 b1 => gN.bxe hS (by omega)
  have po : ∀ b : Int, 0 ≤ b → b < n → pg N b = pg m b := fun b b0 b1 => gN.pge (Or.inl rfl) (bo b b0 b1) (k0.1 b b0 (by omega)).1 (by have := (k0.1 b b0 (by omega)).2.1; omega)
  have bn : bx N n = mz m := by
    unfold bx
    rw [Int.toNat_natCast, er, a1]
    rfl
  have pn : pg N n = mz m + 3 := by
    unfold pg
    rw [bn, er, b2]
    rfl
  have fo : ∀ f : Int, fl N f = fl m f := fun f => gN.fle hS (by omega)
  have kdE : ∀ b : Int, 0 ≤ b → b < n → (wN N).kd b = (wN m).kd b := fun b b0 b1 => cN 87 _ (by omega) (by omega) (by omega) (by omega) (by omega) (by omega)
  have agO : ∀ b : Int, 0 ≤ b → b < n → AgB N (wN N) b := fun b b0 b1 => by
    have K := (h.1.2.1.2 b b0 (by omega)).1
    have a := gN.agB (Or.inl rfl) hS (fun p j z => by omega) (W := wN m) (b := b) (by omega) (k0.1 b b0 (by omega)).2.1 (k0.pz hS ⟨b0, by omega⟩) K
    refine a.cg (kdE b b0 b1) (fun i i0 i1 => ?_) ?_ (fun l l0 l1 => ⟨?_, ?_, ?_, ?_⟩) ?_ (fun r r0 r1 => ?_)
    · exact cN 89 _ (by omega) (by omega) (by omega) (by omega) (by omega) (by omega)
    · exact cN 91 _ (by omega) (by omega) (by omega) (by omega) (by omega) (by omega)
    · exact cN 92 _ (by omega) (by omega) (by omega) (by omega) (by omega) (by omega)
    · show (if 0 ≤ b then (if mi N 93 ((12 * b) + l).toNat ≠ 0 then 1 else 0) else 0 : Int) = if 0 ≤ b then (if mi m 93 ((12 * b) + l).toNat ≠ 0 then 1 else 0) else 0
      rw [cN 93 _ (by omega) (by omega) (by omega) (by omega) (by omega) (by omega)]
    · show (mi N 95 _, mi N 96 _, mi N 97 _) = (mi m 95 _, mi m 96 _, mi m 97 _)
      rw [cN 95 _ (by omega) (by omega) (by omega) (by omega) (by omega) (by omega), cN 96 _ (by omega) (by omega) (by omega) (by omega) (by omega) (by omega), cN 97 _ (by omega) (by omega) (by omega) (by omega) (by omega) (by omega)]
    · exact cN 94 _ (by omega) (by omega) (by omega) (by omega) (by omega) (by omega)
    · show (fun j => cdX N ((170 * b) + j)) = fun j => cdX m ((170 * b) + j)
      funext j
      unfold cdX
      rw [cN 98 _ (by omega) (by omega) (by omega) (by omega) (by omega) (by omega), cN 99 _ (by omega) (by omega) (by omega) (by omega) (by omega) (by omega)]
    · show FX12_mostOf N (mi N 88 _) = FX12_mostOf m (mi m 88 _)
      rw [cN 88 _ (by omega) (by omega) (by omega) (by omega) (by omega) (by omega)]
      rfl
  have nl0 : mi N 91 n = 0 := by rw [cN 91 _ (by omega) (by omega) (by omega) (by omega) (by omega) (by omega)]; exact kb.1
  have agN : AgB N (wN N) n := by
    unfold AgB
    rw [bn, pn, Int.toNat_natCast]
    refine ⟨⟨by rw [er]; exact a1, obz P4 b1, by rw [er]; exact b2, obz P4 b3⟩, ⟨h145, Or.inr (by omega)⟩, ⟨by rw [hiN _ _ (by omega)]; exact c1, ?_⟩, fun j => ?_, fun i i0 i1 => ?_, fun r r0 r1 => ?_, ?_, fun l l0 l1 => ?_⟩
    · rw [hiN _ _ (by omega), c2]
      show k = mi N 87 ((n : Int)).toNat
      rw [Int.toNat_natCast, v87]
    · rw [hiN _ _ (by omega), d2]
      by_cases c : j < 4
      · rw [if_pos c]; exact Or.inr rfl
      · rw [if_neg c]; exact Or.inl (by decide)
    · rw [hiN _ _ (by omega), d2, if_pos (by omega)]
      show -1 = mi N 89 _
      rw [v89 _ (by omega) (by omega)]
    · show FX1_greatestFor N (mz m) r = FX12_mostOf N (mi N 88 _)
      rw [v88 _ (by omega) (by omega)]
      unfold FX1_greatestFor FX12_mostOf
      rw [if_neg (by omega), hiN _ _ (by omega), d1, if_pos (by omega)]
    · rw [hiN _ _ (by omega), d3]
      show 0 = mi N 91 ((n : Int)).toNat
      rw [Int.toNat_natCast, nl0]
    · have l1 : l < mi N 91 ((n : Int)).toNat := l1
      rw [Int.toNat_natCast, nl0] at l1
      omega
  have k1 : K1 N := by
    refine ⟨by rw [v016, v1], fun b b0 b1 => ?_⟩
    rw [v1] at b1
    by_cases c : b = n
    · rw [c]
      refine ⟨agN, ?_⟩
      rw [bn, hiN _ _ (by omega), c3, Int.toNat_natCast, cN 90 _ (by omega) (by omega) (by omega) (by omega) (by omega) (by omega)]
      exact kb.2.symm
    · refine ⟨agO b b0 (by omega), ?_⟩
      have B := k0.1 b b0 (by omega)
      rw [bo b b0 (by omega), gN.2.2.2.1 _ _ (by omega) (by omega), cN 90 _ (by omega) (by omega) (by omega) (by omega) (by omega) (by omega)]
      exact (h.1.2.1.2 b b0 (by omega)).2
  have k2 : K2 N := by
    have c21 : mi N 86 21 = mi m 86 21 := cN 86 21 (by omega) (by omega) (by omega) (by omega) (by omega) (by omega)
    refine ⟨by rw [v017, c21]; exact e17, fun f f0 f1 => ?_⟩
    rw [c21] at f1
    have q := h.1.2.2.1.2 f f0 f1
    have F := k0.2.2.1 f f0 (by omega)
    unfold AgF
    rw [fo]
    refine ⟨⟨(gN.2.2.1 4 _ (by omega) (by omega)).trans q.1.1, q.1.2⟩, gN.flg (Or.inl rfl) (fun p j z => by omega) F.2 q.2.1, fun x hx => ?_⟩
    obtain ⟨t1, t2, t3, t4, t5⟩ := q.2.2 x hx
    have hf : ∀ r j : Nat, r < 9 → mi N (fl m f + r) j = mi m (fl m f + r) j := fun r j hr => gN.2.2.2.1 _ _ (by omega) (by omega)
    have lw : ∀ c j : Nat, 101 ≤ c → c ≤ 105 → mi N c j = mi m c j := fun c j c0 c1 => cN c j (by omega) (by omega) (by omega) (by omega) (by omega) (by omega)
    rw [hf 1 _ (by omega), hf 2 _ (by omega), hf 3 _ (by omega), hf 4 _ (by omega), lw 101 _ (by omega) (by omega), lw 102 _ (by omega) (by omega), lw 103 _ (by omega) (by omega), lw 104 _ (by omega) (by omega)]
    refine ⟨t1, t2, t3, t4, fun j hj => ?_⟩
    rw [Nat.add_assoc, hf _ _ (by omega), ← Nat.add_assoc, lw 105 _ (by omega) (by omega)]
    exact t5 j hj
  refine ⟨⟨⟨rs, rp⟩, k1, k2, rest.1, rest.2.1, rest.2.2.1⟩, ?_, ?_, rest.2.2.2.1, rest.2.2.2.2.1, rest.2.2.2.2.2.1, rest.2.2.2.2.2.2.1, rest.2.2.2.2.2.2.2.1, rest.2.2.2.2.2.2.2.2.1, rest.2.2.2.2.2.2.2.2.2.1, rest.2.2.2.2.2.2.2.2.2.2, ?_, ?_⟩
  · -- K0
    obtain ⟨g1, g2, g3, g4, g5, q, g6, g7, g8⟩ := k0
    have zN9 : mz N = mz m + 9 := by rw [ez, z1]
    refine ⟨fun b b0 b1 => ?_, fun b c b0 b1 c0 c1 bc => ?_, fun f f0 f1 => ?_, fun f g f0 f1 g0 g1' fg => ?_, fun b f b0 b1 f0 f1 => ?_, q, ?_, ?_, fun b b0 b1 => ?_⟩
    · rw [v016] at b1 ⊢
      by_cases y : b = n
      · rw [y, bn, pn, zN9]
        exact ⟨h145, Nat.le_refl _, Or.inr ⟨n, by omega, by omega, by rw [bn]⟩⟩
      · have B := g1 b b0 (by omega)
        rw [bo b b0 (by omega), po b b0 (by omega), zN9]
        refine ⟨B.1, by omega, ?_⟩
        rcases B.2.2 with w | ⟨c, c0, c1, w⟩
        · exact Or.inl w
        · exact Or.inr ⟨c, c0, by omega, by rw [bo c c0 (by omega)]; exact w⟩
    · rw [v016] at b1 c1
      have lt : ∀ d : Int, 0 ≤ d → d < n → bx m d + 9 ≤ mz m ∧ pg m d + 6 ≤ mz m := fun d d0 d1 => ⟨(g1 d d0 (by omega)).2.1, h.k0.pz hS ⟨d0, by omega⟩⟩
      by_cases y : b = n
      · by_cases y2 : c = n
        · omega
        · have w := lt c c0 (by omega)
          rw [y, bn, pn, bo c c0 (by omega), po c c0 (by omega)]
          exact ⟨Or.inr w.1, by omega⟩
      · by_cases y2 : c = n
        · have w := lt b b0 (by omega)
          rw [y2, bn, pn, bo b b0 (by omega), po b b0 (by omega)]
          exact ⟨Or.inl w.1, by omega⟩
        · rw [bo b b0 (by omega), po b b0 (by omega), bo c c0 (by omega), po c c0 (by omega)]
          exact g2 b c b0 (by omega) c0 (by omega) bc
    · rw [v017] at f1
      rw [fo, zN9]
      have F := g3 f f0 f1
      exact ⟨F.1, by omega⟩
    · rw [v017] at f1 g1'
      rw [fo, fo]
      exact g4 f g f0 f1 g0 g1' fg
    · rw [v016] at b1
      rw [v017] at f1
      rw [fo]
      have F := g3 f f0 f1
      by_cases y : b = n
      · rw [y, bn]
        exact Or.inr F.2
      · rw [bo b b0 (by omega)]
        exact g5 b f b0 (by omega) f0 f1
    · rw [gN.2.2.1 0 15 (by omega) (by omega)]
      exact g6
    · rw [v016]
      rcases g7 with w | ⟨c, c0, c1, w⟩
      · exact Or.inl w
      · exact Or.inr ⟨c, c0, by omega, by rw [bo c c0 (by omega)]; exact w⟩
    · rw [v016] at b1
      by_cases y : b = n
      · rw [y, pn]
        rcases g7 with w | ⟨c, c0, c1, w⟩
        · omega
        · have := (g1 c c0 c1).2.1
          omega
      · rw [po b b0 (by omega)]
        exact g8 b b0 (by omega)
  · -- K3
    intro b b0 b1
    rw [v016] at b1
    by_cases y : b = n
    · rw [y, pn, hiN _ _ (by omega), d3]
      refine ⟨by decide, fun l l0 l1 => ?_⟩
      have l1 : l < mi N 91 ((n : Int)).toNat := l1
      rw [Int.toNat_natCast, nl0] at l1
      omega
    · have g := h.k3 b b0 (by omega)
      have B := k0.pz hS (b := b) ⟨b0, by omega⟩
      have pr := (h.1.2.1.2 b b0 (by omega)).1.2.1.2
      rw [po b b0 (by omega), gN.2.2.2.1 (pg m b) 5 (by omega) (by omega)]
      refine ⟨g.1, fun l l0 l1 => ?_⟩
      have l1 : l < mi N 91 b.toNat := l1
      rw [cN 91 _ (by omega) (by omega) (by omega) (by omega) (by omega) (by omega)] at l1
      show mi N 97 _ ≤ _
      rw [cN 97 _ (by omega) (by omega) (by omega) (by omega) (by omega) (by omega)]
      exact g.2 l l0 l1
  · intro b b0 b1
    rw [v1] at b0
    rw [cN 91 _ (by omega) (by omega) (by omega) (by omega) (by omega) (by omega), cN 90 _ (by omega) (by omega) (by omega) (by omega) (by omega) (by omega)]
    exact h.kb b (by omega) b1
  · have z := h.kz
    unfold KZ at z ⊢
    rw [v016, v017, ez, z1]
    refine ⟨⟨by have := z.1.1; omega, z.1.2.gv k0 hS gN (Or.inl rfl)⟩, fun b b0 b1 s hs => ?_⟩
    rw [v016] at b1
    by_cases y : b = n
    · rw [y, bn, hiN _ _ (by omega), d1, if_pos hs, v88 _ (by omega) (by omega)]
    · have B1 := (k0.1 b b0 (by omega)).1
      have B2 := (k0.1 b b0 (by omega)).2.1
      rw [bo b b0 (by omega), gN.2.2.2.1 _ _ (by omega) (by omega), cN 88 _ (by omega) (by omega) (by omega) (by omega) (by omega) (by omega)]
      exact z.2 b b0 (by omega) s hs
theorem ag_box1 {G : QW} {m : AM} {k : Int} (h : Inv m) (hg : (0 ≤ k ∧ k ≤ 6) ∧ mi m 0 16 < 6) : AG G mX11_box mX12_box 3 2 9 235 [vI k] m := by
  refine (cr_box1 h.s h.i hg).mono (fun r N q => ?_)
  obtain ⟨e2, e1⟩ := q
  rw [e1]
  obtain ⟨s1, s2, s3, s4⟩ := box_ok h hg.1 hg.2 (boxN_nb h.s h.i hg.1 hg.2)
  exact ⟨_, e2, rfl, s1, (ct_X12_box s1 s2 (by omega) (by omega)).mono (fun r2 m2 p => ⟨by rw [p.1, s3], by rw [p.2]; exact s4⟩)⟩
theorem ag_box0 {G : QW} {m : AM} {k : Int} (h : Inv m) (hk1 : -2147483648 ≤ k) (hk2 : k < 2147483648) (hg : ¬ ((0 ≤ k ∧ k ≤ 6) ∧ mi m 0 16 < 6)) : AG G mX11_box mX12_box 3 2 0 0 [vI k] m := by
  have h16 := h.i.s 0 16 0 6 (by decide)
  have e16 : mi m 0 16 = mi m 86 1 := h.1.2.1.1
  refine (cr_box0 h.s h.i hk1 hk2 hg).mono (fun r N q => ?_)
  obtain ⟨e2, e1⟩ := q
  rw [e1]
  refine ⟨_, e2, rfl, h.s, (ct_X12_box h.s h.i hk1 hk2).mono (fun r2 m2 p => ?_)⟩
  have e : FX12_box m k = (if 0 ≤ k ∧ k ≤ 6 then -3 else -1, m) := by
    unfold FX12_box
    by_cases c : 0 ≤ k ∧ k ≤ 6
    · rw [if_pos c, if_pos c, if_neg (by omega)]
    · rw [if_neg c, if_neg c]
  rw [e] at p
  exact ⟨p.1, by rw [p.2]; exact h⟩

/-! what only reads: the same answers -/
theorem line_eq {m : AM} (h : Inv m) (b l w : Int) : FX11_line m b l w = FX12_line m b l w := by
  have e16 : mi m 0 16 = mi m 86 1 := h.1.2.1.1
  unfold FX11_line FX12_line
  by_cases c : 0 ≤ b ∧ b < mi m 86 1
  · have B := (h.1.2.1.2 b c.1 c.2).1
    have n : mi m (pg m b) 6 = mi m 91 b.toNat := B.2.2.2.2.2.2.1
    rw [e16, n]
    by_cases c2 : 0 ≤ l ∧ l < mi m 91 b.toNat
    · have A := B.2.2.2.2.2.2.2 l c2.1 c2.2
      have a1 : z_iand (z_ishr (mi m (pg m b) 7) l) 1 = mi m 92 ((12 * b) + l).toNat := A.1
      have a2 : z_iand (z_ishr (mi m (pg m b) 8) l) 1 = if mi m 93 ((12 * b) + l).toNat ≠ 0 then 1 else 0 := A.2.1.trans (if_pos c.1)
      have a3 : mi m (pg m b + 2) l.toNat = mi m 95 ((12 * b) + l).toNat := A.2.2.1.1
      have a4 : mi m (pg m b + 3) l.toNat = mi m 96 ((12 * b) + l).toNat := A.2.2.1.2.1
      have a5 : mi m (pg m b + 5) l.toNat = mi m 94 ((12 * b) + l).toNat := A.2.2.2.1
      have i92 := h.i.a 92 0 1 (by decide) ((12 * b) + l).toNat
      have i93 := h.i.a 93 0 1 (by decide) ((12 * b) + l).toNat
      have cc : (0 ≤ b ∧ b < mi m 86 1) ∧ 0 ≤ l ∧ l < mi m 91 b.toNat := ⟨c, c2⟩
      simp only [if_pos cc]
      rw [a1, a2, a3, a4, a5]
      (repeat' split) <;> omega
    · rw [if_neg (fun q => c2 q.2), if_neg (fun q => c2 q.2)]
  · rw [e16, if_neg (fun q => c q.1), if_neg (fun q => c q.1)]
theorem ofRun_eq {m : AM} (h : Inv m) (b w : Int) : FX11_ofRun m b w = FX12_ofRun m b w := by
  rcases h.k8 with ⟨z1, z2⟩ | ⟨z1, z2, S, J, -, R⟩
  · unfold FX11_ofRun FX12_ofRun
    rw [if_pos z1, z2]
    by_cases c : b < 0
    · rw [if_pos c]
    · rw [if_neg c, if_neg (by omega)]
  · have i51 := h.i.s 86 51 0 6 (by decide)
    by_cases c : 0 ≤ b ∧ b < mi m 86 51
    · have j0 := J.2.2.1 b.toNat (by omega)
      have d0 := J.2.2.2.1 b.toNat (by omega)
      have c0 := J.2.2.2.2.1 b.toNat (by omega)
      have r0 := fun p hp => R.2.2.1 b.toNat p (by omega) hp
      have r4 := R.2.2.2.1 b.toNat (by omega)
      have r5 := R.2.2.2.2.1 b.toNat (by omega)
      have r6 := R.2.2.2.2.2.1 b.toNat (by omega)
      have fr := h.i.a 27 0 10 (by decide) b.toNat
      rw [show 24 + 3 = 27 from rfl] at j0
      rw [show 24 + 4 = 28 from rfl] at d0
      rw [show 24 + 5 = 29 from rfl] at c0
      unfold FX11_ofRun FX12_ofRun
      rw [if_neg (show ¬ mi m 86 50 = 0 by omega), if_pos (show 0 ≤ b ∧ b ≤ mi m 86 51 - 1 by omega), if_neg (show ¬ b < 0 by omega), z2, if_pos c.2, j0, d0, c0, r4, r5, r6]
      rw [j0] at fr
      by_cases w1 : 0 ≤ w ∧ w ≤ 7
      · have q1 := J.1 ((8 * b) + w).toNat (by omega)
        have q2 := R.1 ((8 * b) + w).toNat (by omega)
        rw [show 24 + 1 = 25 from rfl] at q1
        repeat (first | rw [if_pos (by omega)] | rw [if_neg (by omega)])
        rw [show (b * 8) + w = (8 * b) + w by omega, q1, q2]
      · by_cases w2 : 10 ≤ w ∧ w ≤ 13
        · have q1 := J.2.1 (((4 * b) + w) - 10).toNat (by omega)
          have q2 := R.2.1 (((4 * b) + w) - 10).toNat (by omega)
          have q3 := r0 (w - 10).toNat (by omega)
          rw [show 24 + 2 = 26 from rfl] at q1
          rw [show 4 * b.toNat + (w - 10).toNat = (((4 * b) + w) - 10).toNat by omega] at q3
          rw [q2, q3, show ((b * 4) + w) - 10 = ((4 * b) + w) - 10 by omega, q1]
          repeat (first | rw [if_pos (by omega)] | rw [if_neg (by omega)])
          all_goals ((repeat' split) <;> first | rfl | omega)
        · by_cases w3 : 20 ≤ w ∧ w ≤ 23
          · have q3 := r0 (w - 20).toNat (by omega)
            rw [show 4 * b.toNat + (w - 20).toNat = (((4 * b) + w) - 20).toNat by omega] at q3
            rw [q3]
            repeat (first | rw [if_pos (by omega)] | rw [if_neg (by omega)])
            all_goals ((repeat' split) <;> first | rfl | omega)
          · rw [if_neg w1, if_neg w2, if_neg w3]
            (repeat' split) <;> first | rfl | omega
    · unfold FX11_ofRun FX12_ofRun
      rw [if_neg (show ¬ mi m 86 50 = 0 by omega), if_neg (show ¬ (0 ≤ b ∧ b ≤ mi m 86 51 - 1) by omega)]
      by_cases c2 : b < 0
      · rw [if_pos c2]
      · rw [if_neg c2, if_neg (by omega)]
theorem firstFault_eq {m : AM} (h : Inv m) (w : Int) : FX11_firstFault m w = FX12_firstFault m w := by
  rcases h.k8 with ⟨z1, z2⟩ | ⟨z1, z2, S, J, F, R⟩
  · unfold FX11_firstFault FX12_firstFault
    rw [if_pos z1, if_pos (by omega)]
  · have i51 := h.i.s 86 51 0 6 (by decide)
    have r0 := R.2.2.2.2.2.2.1
    unfold FX11_firstFault FX12_firstFault
    rw [if_neg (show ¬ mi m 0 18 < 0 by omega), if_neg (show ¬ mi m 86 50 = 0 by omega)]
    by_cases w1 : 0 ≤ w ∧ w ≤ 3
    · rw [if_neg (show ¬ w < 0 by omega), if_pos w1.2, if_pos w1, show (0 : Int).toNat = 0 from rfl, r0]
      by_cases c : 0 ≤ S.fi.1
      · have f := F.2 c
        have g := R.2.2.2.2.2.2.2 c
        rw [show 24 + 7 = 31 from rfl] at f
        have n : mi m 24 7 ≠ 0 := fun e => by have := F.1.mp e; omega
        rw [if_pos n, if_pos (show S.fi.1 ≥ 0 from c)]
        have hw : w = 0 ∨ w = 1 ∨ w = 2 ∨ w = 3 := by omega
        rcases hw with rfl | rfl | rfl | rfl
        · exact f.1.trans r0.symm
        · exact f.2.1.trans g.1.symm
        · exact f.2.2.1.trans g.2.1.symm
        · exact f.2.2.2.trans g.2.2.symm
      · have z := F.1.mpr (by omega)
        rw [if_neg (fun q => q z), if_neg (by omega)]
    · rw [if_neg w1]
      split
      · rfl
      · rw [if_neg (by omega)]
theorem began_eq {m : AM} (h : Inv m) (k : Int) : FX11_began m k = FX12_began m k := by
  unfold FX11_began FX12_began
  rw [h.k9.1]
  by_cases c : mi m 86 62 = 0
  · rw [if_pos c, if_pos c]
  · rw [if_neg c, if_neg c]
    by_cases w : 0 ≤ k ∧ k ≤ 2
    · rw [if_neg (by omega), if_neg (by omega), if_pos w, h.k9.2 k.toNat (by omega)]
    · rw [if_neg w]
      split
      · rfl
      · rw [if_pos (by omega)]
theorem feels_eq {m : AM} (h : Inv m) (k t : Int) : FX11_feels m k t = FX12_feels m k t := by
  have e17 : mi m 0 17 = mi m 86 21 := h.1.2.2.1.1
  unfold FX11_feels FX12_feels
  rw [e17]
  by_cases c : 0 ≤ k ∧ (0 ≤ k / 10 ∧ k / 10 < mi m 86 21) ∧ k % 10 ≤ 2
  · rw [if_pos c, if_pos (show 0 ≤ k ∧ (0 ≤ k / 10 ∧ k / 10 < mi m 86 21) ∧ 0 ≤ k % 10 ∧ k % 10 ≤ 2 from ⟨c.1, c.2.1, by omega, c.2.2⟩)]
    by_cases c2 : 0 ≤ t ∧ t ≤ 199
    · rw [if_pos c2, if_pos c2]
      have F := h.1.flt c.2.1.1 (by rw [e17]; exact c.2.1.2)
      have q := felt_agree F.2.2 F.2.1 c.2.1.1 c2.1 (k % 10).toNat (by omega)
      have e : feF m (fl m (k / 10)) t (k % 10).toNat = FX3_feltAt m (fl m (k / 10)) (((k % 10).toNat : Nat) : Int) t := if_pos (by omega)
      rw [e, show (((k % 10).toNat : Nat) : Int) = k % 10 by omega] at q
      exact q.symm
    · rw [if_neg c2, if_neg c2]
  · rw [if_neg c, if_neg (show ¬ (0 ≤ k ∧ (0 ≤ k / 10 ∧ k / 10 < mi m 86 21) ∧ 0 ≤ k % 10 ∧ k % 10 ≤ 2) from fun q => c ⟨q.1, q.2.1, q.2.2.2⟩)]
theorem trace_eq {m : AM} (h : Inv m) (i : Int) : FX11_trace m i = FX12_trace m i := by
  unfold FX11_trace FX12_trace
  rw [h.ka.1]
  split
  · rfl
  · split
    · rfl
    · split
      · rfl
      · exact h.ka.2 i.toNat (by omega)
theorem count_eq {m : AM} (h : Inv m) (w : Int) : FX11_count m w = FX12_count m w := by
  unfold FX11_count FX12_count
  rw [h.ka.1, show mi m 0 16 = mi m 86 1 from h.1.2.1.1, show mi m 0 17 = mi m 86 21 from h.1.2.2.1.1, h.k6.1, h.k5.1]
/-- a shelf as both sides see it -/
theorem shelf_eq {m : AM} (h : Inv m) {s : Int} (hs : 0 ≤ s ∧ s ≤ 5) : (mi m 139 s.toNat = -1 ↔ mi m (68 + 3 * s.toNat) 2 < 0 ∧ mi m (68 + 3 * s.toNat) 3 = -1) ∧ (mi m 139 s.toNat < -1 ↔ mi m (68 + 3 * s.toNat) 3 ≠ -1) ∧ (-1 ≤ mi m (68 + 3 * s.toNat) 2 ∧ mi m (68 + 3 * s.toNat) 2 ≤ 5) ∧ (-1 ≤ mi m (68 + 3 * s.toNat) 3 ∧ mi m (68 + 3 * s.toNat) 3 ≤ 4) ∧ (0 ≤ mi m (68 + 3 * s.toNat) 4 ∧ mi m (68 + 3 * s.toNat) 4 ≤ 60) ∧ K7s m s.toNat := by
  have k := h.k7 s.toNat (by omega)
  have b : (-1 ≤ mi m (68 + 3 * s.toNat) 2 ∧ mi m (68 + 3 * s.toNat) 2 ≤ 5) ∧ (-1 ≤ mi m (68 + 3 * s.toNat) 3 ∧ mi m (68 + 3 * s.toNat) 3 ≤ 4) ∧ (0 ≤ mi m (68 + 3 * s.toNat) 4 ∧ mi m (68 + 3 * s.toNat) 4 ≤ 60) := by
    have key : ∀ n : Nat, n < 6 → (68 + 3 * n, 2, (-1 : Int), (5 : Int)) ∈ imS ∧ (68 + 3 * n, 3, (-1 : Int), (4 : Int)) ∈ imS ∧ (68 + 3 * n, 4, (0 : Int), (60 : Int)) ∈ imS := by
      intro n hn
      rcases (by omega : n = 0 ∨ n = 1 ∨ n = 2 ∨ n = 3 ∨ n = 4 ∨ n = 5) with rfl | rfl | rfl | rfl | rfl | rfl <;> exact ⟨by decide, by decide, by decide⟩
    have q := key s.toNat (by omega)
    exact ⟨h.i.s _ _ _ _ q.1, h.i.s _ _ _ _ q.2.1, h.i.s _ _ _ _ q.2.2⟩
  have k2 := k.2
  refine ⟨?_, ?_, b.1, b.2.1, b.2.2, k⟩
  · split at k2 <;> omega
  · split at k2 <;> omega
theorem refusal_eq {m : AM} (h : Inv m) (s i : Int) : FX11_refusalOf m s i = FX12_whyNoPlace m s i := by
  unfold FX11_refusalOf FX12_whyNoPlace
  by_cases c : 0 ≤ s ∧ s ≤ 5
  · obtain ⟨e1, e2, r2, r3, r4, k⟩ := shelf_eq h c
    rw [if_pos c, if_pos c]
    by_cases c1 : mi m (68 + 3 * s.toNat) 2 < 0 ∧ mi m (68 + 3 * s.toNat) 3 = -1
    · rw [if_pos c1, if_neg (fun q => q (e1.mpr c1))]
    · rw [if_neg c1, if_pos (fun q => c1 (e1.mp q))]
      by_cases c2 : mi m (68 + 3 * s.toNat) 3 ≠ -1
      · have l := (k.1 c2).2.1
        have c3 : mi m 139 s.toNat < 0 := by have := e2.mpr c2; omega
        rw [if_pos c2, if_pos c3, ← l]
        split
        · rw [if_neg (by omega)]
        · split
          · rw [if_pos (by omega)]
          · rw [if_neg (by omega)]
      · have c3 : ¬ mi m 139 s.toNat < 0 := fun q => c2 (e2.mp (by have : mi m 139 s.toNat ≠ -1 := fun z => c1 (e1.mp z); omega))
        rw [if_neg c2, if_neg c3]
  · rw [if_neg c, if_neg c]
theorem element_eq {m : AM} (h : Inv m) (s i : Int) : FX11_element m s i = FX12_element m s i := by
  unfold FX11_element FX12_element
  have r := FX11_refusal_rng m s i
  have neg : FX11_refusalOf m s i ≤ 0 := by
    unfold FX11_refusalOf
    (repeat' split) <;> omega
  rw [← refusal_eq h]
  by_cases c : FX11_refusalOf m s i = 0
  · rw [if_neg (fun q => q c), if_pos (show FX11_refusalOf m s i ≥ 0 by omega)]
    have hs : 0 ≤ s ∧ s ≤ 5 := refusal_sh (m := m) (i := i) (by omega)
    obtain ⟨e1, e2, r2, r3, r4, k⟩ := shelf_eq h hs
    have hi := refusal_ok r4.2 c
    have c2 : mi m (68 + 3 * s.toNat) 3 ≠ -1 := fun z => by
      unfold FX11_refusalOf at c
      rw [if_pos hs] at c
      split at c
      · omega
      · rw [if_neg (fun q => q z)] at c; omega
    have g := (k.1 c2).2.2 i.toNat (by omega)
    have b01 := h.i.a 142 0 1 (by decide) (60 * s.toNat + i.toNat)
    unfold FX7_wholeAt
    rw [g.2, g.1, show ((60 * s) + i).toNat = 60 * s.toNat + i.toNat by omega]
    split
    · rw [if_pos (by omega)]
    · rw [if_neg (by omega)]
  · rw [if_pos c, if_neg (show ¬ FX11_refusalOf m s i ≥ 0 by omega)]
theorem taken_eq {m : AM} (h : Inv m) (s k : Int) : FX11_taken m s k = FX12_taken m s k := by
  unfold FX11_taken FX12_taken
  by_cases c : 0 ≤ s ∧ s ≤ 5
  · obtain ⟨e1, e2, r2, r3, r4, K⟩ := shelf_eq h c
    rw [if_pos c, if_pos c]
    by_cases ck : 0 ≤ k ∧ k ≤ 6
    · rw [if_neg (by omega), if_pos (by omega), if_pos ck]
      by_cases c1 : mi m (68 + 3 * s.toNat) 2 < 0 ∧ mi m (68 + 3 * s.toNat) 3 = -1
      · rw [if_pos c1, if_neg (fun q => q (e1.mpr c1))]
      · rw [if_neg c1, if_pos (fun q => c1 (e1.mp q))]
        by_cases c2 : mi m (68 + 3 * s.toNat) 3 ≠ -1
        · have c3 : mi m 139 s.toNat < 0 := by have := e2.mpr c2; omega
          have c4 : ¬ (0 ≤ mi m (68 + 3 * s.toNat) 2 ∧ mi m (68 + 3 * s.toNat) 2 < mi m 0 16) := by have := (K.1 c2).1; omega
          rw [if_neg c4, if_pos c3]
        · have e9 : mi m 139 s.toNat = mi m (68 + 3 * s.toNat) 2 := K.2.trans (if_neg c2)
          have lt := h.i.2.2 s.toNat (by omega)
          have hb : 0 ≤ mi m (68 + 3 * s.toNat) 2 ∧ mi m (68 + 3 * s.toNat) 2 < mi m 0 16 := ⟨by omega, lt.2⟩
          have B := (h.1.2.1.2 _ hb.1 (by rw [← h.1.2.1.1]; exact hb.2)).1
          have kd : mi m (bx m (mi m (68 + 3 * s.toNat) 2)) 1 = mi m 87 (mi m (68 + 3 * s.toNat) 2).toNat := B.2.2.1.2
          have kr := h.i.a 87 0 6 (by decide) (mi m (68 + 3 * s.toNat) 2).toNat
          have c5 : ¬ mi m (68 + 3 * s.toNat) 2 < 0 := by omega
          rw [if_pos hb, e9, if_neg c5, kd]
          generalize mi m 87 (mi m (68 + 3 * s.toNat) 2).toNat = q at kr
          have hq : q = 0 ∨ q = 1 ∨ q = 2 ∨ q = 3 ∨ q = 4 ∨ q = 5 ∨ q = 6 := by omega
          have hk : k = 0 ∨ k = 1 ∨ k = 2 ∨ k = 3 ∨ k = 4 ∨ k = 5 ∨ k = 6 := by omega
          rcases hq with rfl | rfl | rfl | rfl | rfl | rfl | rfl <;> rcases hk with rfl | rfl | rfl | rfl | rfl | rfl | rfl <;> rfl
    · rw [if_neg ck]
      split
      · rfl
      · rw [if_neg (by omega)]
  · rw [if_neg c, if_neg c]

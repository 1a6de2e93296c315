theorem shA_at (s i : Int) (h0 : 0 ≤ s) (h1 : 0 ≤ i) : ∀ (x : Nat) (k : Int) (N : AM), 0 ≤ k → (shA s i x k N).2.2 = N.2.2 ∧ (∀ c j, mi (shA s i x k N) c j = if c = 144 ∧ k ≤ (j : Int) ∧ (j : Int) < k + x then mi N 142 (((60 * s) + i) + (j : Int)).toNat else mi N c j) ∧ ∀ c j, ml (shA s i x k N) c j = if c = 143 ∧ k ≤ (j : Int) ∧ (j : Int) < k + x then ml N 141 (((60 * s) + i) + (j : Int)).toNat else ml N c j := by
  intro x
  induction x with
  | zero =>
    intro k N h
    exact ⟨rfl, fun c j => by rw [if_neg (by omega)]; rfl, fun c j => by rw [if_neg (by omega)]; rfl⟩
  | succ x ih =>
    intro k N h
    have r1 := mi_rng N 142 (((60 * s) + i) + k).toNat
    have r2 := ml_rng N 141 (((60 * s) + i) + k).toNat
    obtain ⟨a, b, d⟩ := ih (k + 1) (si (sl N 143 k.toNat (ml N 141 (((60 * s) + i) + k).toNat)) 144 k.toNat (mi N 142 (((60 * s) + i) + k).toNat)) (by omega)
    refine ⟨a, fun c j => ?_, fun c j => ?_⟩
    · show mi (shA s i x (k + 1) _) c j = _
      rw [b]
      by_cases q : c = 144 ∧ k + 1 ≤ (j : Int) ∧ (j : Int) < k + 1 + x
      · rw [if_pos q, if_pos (by omega), mi_si_ne _ _ (by omega)]; rfl
      · rw [if_neg q]
        by_cases q2 : c = 144 ∧ j = k.toNat
        · rw [if_pos (by omega), q2.1, q2.2, mi_si_same _ _ _ r1.1 (by omega), show ((k.toNat : Nat) : Int) = k by omega]
        · rw [mi_si_ne _ _ q2, if_neg (by omega)]; rfl
    · show ml (shA s i x (k + 1) _) c j = _
      rw [d]
      by_cases q : c = 143 ∧ k + 1 ≤ (j : Int) ∧ (j : Int) < k + 1 + x
      · rw [if_pos q, if_pos (by omega), ml_si, ml_sl_ne _ _ (by omega)]
      · rw [if_neg q, ml_si]
        by_cases q2 : c = 143 ∧ j = k.toNat
        · rw [if_pos (by omega), q2.1, q2.2, ml_sl_same _ _ _ r2.1 (by omega), show ((k.toNat : Nat) : Int) = k by omega]
        · rw [ml_sl_ne _ _ q2, if_neg (by omega)]
theorem shB_at (o j : Int) (h0 : 0 ≤ o) (h1 : 0 ≤ j) : ∀ (x : Nat) (k : Int) (N : AM), 0 ≤ k → (shB o j x k N).2.2 = N.2.2 ∧ (∀ c p, mi (shB o j x k N) c p = if c = 142 ∧ ((60 * o) + j) + k ≤ (p : Int) ∧ (p : Int) < ((60 * o) + j) + k + x then mi N 144 ((p : Int) - ((60 * o) + j)).toNat else mi N c p) ∧ ∀ c p, ml (shB o j x k N) c p = if c = 141 ∧ ((60 * o) + j) + k ≤ (p : Int) ∧ (p : Int) < ((60 * o) + j) + k + x then ml N 143 ((p : Int) - ((60 * o) + j)).toNat else ml N c p := by
  intro x
  induction x with
  | zero =>
    intro k N h
    exact ⟨rfl, fun c p => by rw [if_neg (by omega)]; rfl, fun c p => by rw [if_neg (by omega)]; rfl⟩
  | succ x ih =>
    intro k N h
    have r1 := mi_rng N 144 k.toNat
    have r2 := ml_rng N 143 k.toNat
    obtain ⟨a, b, d⟩ := ih (k + 1) (si (sl N 141 (((60 * o) + j) + k).toNat (ml N 143 k.toNat)) 142 (((60 * o) + j) + k).toNat (mi N 144 k.toNat)) (by omega)
    refine ⟨a, fun c p => ?_, fun c p => ?_⟩
    · show mi (shB o j x (k + 1) _) c p = _
      rw [b]
      by_cases q : c = 142 ∧ ((60 * o) + j) + (k + 1) ≤ (p : Int) ∧ (p : Int) < ((60 * o) + j) + (k + 1) + x
      · rw [if_pos q, if_pos (by omega), mi_si_ne _ _ (by omega)]; rfl
      · rw [if_neg q]
        by_cases q2 : c = 142 ∧ p = (((60 * o) + j) + k).toNat
        · rw [if_pos (by omega), q2.1, q2.2, mi_si_same _ _ _ r1.1 (by omega), show (((((60 * o) + j) + k).toNat : Nat) : Int) - ((60 * o) + j) = k by omega]
        · rw [mi_si_ne _ _ q2, if_neg (by omega)]; rfl
    · show ml (shB o j x (k + 1) _) c p = _
      rw [d]
      by_cases q : c = 141 ∧ ((60 * o) + j) + (k + 1) ≤ (p : Int) ∧ (p : Int) < ((60 * o) + j) + (k + 1) + x
      · rw [if_pos q, if_pos (by omega), ml_si, ml_sl_ne _ _ (by omega)]
      · rw [if_neg q, ml_si]
        by_cases q2 : c = 141 ∧ p = (((60 * o) + j) + k).toNat
        · rw [if_pos (by omega), q2.1, q2.2, ml_sl_same _ _ _ r2.1 (by omega), show (((((60 * o) + j) + k).toNat : Nat) : Int) - ((60 * o) + j) = k by omega]
        · rw [ml_sl_ne _ _ q2, if_neg (by omega)]
theorem key_shift {m : AM} (h : Inv m) (s i o j n : Int) : KeyP (FX11_shift m s i o j n) (fun N => shiR N s i o j n) := by
  by_cases c : (0 ≤ s ∧ s ≤ 5) ∧ (0 ≤ o ∧ o ≤ 5)
  · obtain ⟨e1, e2, r2, r3, r4, k⟩ := shelf_eq h c.1
    obtain ⟨g1, g2, q2, q3, q4, k'⟩ := shelf_eq h c.2
    by_cases c1 : mi m 139 s.toNat = -1 ∨ mi m 139 o.toNat = -1
    · refine keyP_no h (v := -11) ?_ ?_
      · unfold FX11_shift
        rw [if_pos c.1, if_pos c.2]
        by_cases z : mi m (68 + 3 * s.toNat) 2 < 0 ∧ mi m (68 + 3 * s.toNat) 3 = -1
        · rw [if_pos z]
        · rw [if_neg z, if_pos (by rcases c1 with y | y; exact absurd (e1.mp y) z; exact g1.mp y)]
      · show shiR m s i o j n = _
        unfold shiR
        rw [if_pos c, if_pos c1]
    · have n1 : ¬ (mi m (68 + 3 * s.toNat) 2 < 0 ∧ mi m (68 + 3 * s.toNat) 3 = -1) := fun z => c1 (Or.inl (e1.mpr z))
      have n2 : ¬ (mi m (68 + 3 * o.toNat) 2 < 0 ∧ mi m (68 + 3 * o.toNat) 3 = -1) := fun z => c1 (Or.inr (g1.mpr z))
      have a := k.2
      have a' := k'.2
      by_cases c2 : mi m 139 s.toNat ≥ 0 ∨ mi m 139 s.toNat ≠ mi m 139 o.toNat
      · refine keyP_no h (v := -12) ?_ ?_
        · unfold FX11_shift
          rw [if_pos c.1, if_pos c.2, if_neg n1, if_neg n2]
          by_cases z : mi m (68 + 3 * s.toNat) 3 ≠ -1
          · rw [if_pos z, if_neg (fun y => by rw [if_pos z] at a; rw [if_pos (by omega)] at a'; omega)]
          · rw [if_neg z]
        · show shiR m s i o j n = _
          unfold shiR
          rw [if_pos c, if_neg c1, if_pos c2]
      · have z : mi m (68 + 3 * s.toNat) 3 ≠ -1 := fun y => by rw [if_neg (fun w => w y)] at a; omega
        have z' : mi m (68 + 3 * o.toNat) 3 ≠ -1 := fun y => by rw [if_neg (fun w => w y)] at a'; omega
        have zz : mi m (68 + 3 * s.toNat) 3 = mi m (68 + 3 * o.toNat) 3 := by
          rw [if_pos z] at a
          rw [if_pos z'] at a'
          omega
        have l := (k.1 z).2.1
        have l' := (k'.1 z').2.1
        by_cases c3 : n < 0 ∨ i < 0 ∨ j < 0 ∨ i > mi m 140 s.toNat - n ∨ j > mi m 140 o.toNat - n
        · refine keyP_no h (v := -13) ?_ ?_
          · unfold FX11_shift
            rw [if_pos c.1, if_pos c.2, if_neg n1, if_neg n2, if_pos z, if_pos zz]
            by_cases y : 0 ≤ i ∧ 0 ≤ n ∧ i ≤ mi m (68 + 3 * s.toNat) 4 ∧ n ≤ mi m (68 + 3 * s.toNat) 4 - i
            · rw [if_pos y, if_neg (by omega)]
            · rw [if_neg y]
          · show shiR m s i o j n = _
            unfold shiR
            rw [if_pos c, if_neg c1, if_neg c2, if_pos c3]
        · have f1 : FX11_shift m s i o j n = (n, cpi (cpl m (69 + 3 * o.toNat) (69 + 3 * s.toNat) i.toNat j.toNat n.toNat) (70 + 3 * o.toNat) (70 + 3 * s.toNat) i.toNat j.toNat n.toNat) := by
            unfold FX11_shift
            rw [if_pos c.1, if_pos c.2, if_neg n1, if_neg n2, if_pos z, if_pos zz, if_pos (by omega), if_pos (by omega)]
            rw [show 68 + 3 * o.toNat + 1 = 69 + 3 * o.toNat by omega, show 68 + 3 * s.toNat + 1 = 69 + 3 * s.toNat by omega, show 68 + 3 * o.toNat + 2 = 70 + 3 * o.toNat by omega, show 68 + 3 * s.toNat + 2 = 70 + 3 * s.toNat by omega]
          have f2 : ∀ N, (∀ t, mi N 139 t = mi m 139 t) → (∀ t, mi N 140 t = mi m 140 t) → shiR N s i o j n = (n, shM N s i o j n) := fun N y1 y2 => by
            unfold shiR
            rw [if_pos c, y1, y1, y2, y2, if_neg c1, if_neg c2, if_neg c3]
          have ks := fun x hx => (k.1 z).2.2 x hx
          have ko := fun x hx => (k'.1 z').2.2 x hx
          have hs : s.toNat < 6 := by omega
          have ho : o.toNat < 6 := by omega
          have us : s = ((s.toNat : Nat) : Int) := by omega
          have uo' : o = ((o.toNat : Nat) : Int) := by omega
          have b1 : i.toNat + n.toNat ≤ 60 := by omega
          have b2 : j.toNat + n.toNat ≤ 60 := by omega
          have lt := (h.i.2.2 o.toNat ho).2
          have k2' := k'
          rw [f1]
          unfold KeyP
          generalize hN : cpi (cpl m (69 + 3 * o.toNat) (69 + 3 * s.toNat) i.toNat j.toNat n.toNat) (70 + 3 * o.toNat) (70 + 3 * s.toNat) i.toNat j.toNat n.toNat = N
          have uz : N.2.2 = m.2.2 := by rw [← hN]; rfl
          have u : ∀ c p, mi N c p = if c = 70 + 3 * o.toNat ∧ j.toNat ≤ p ∧ p < j.toNat + n.toNat then mi m (70 + 3 * s.toNat) (i.toNat + (p - j.toNat)) else mi m c p := fun c p => by
            rw [← hN, mi_cpi]; rfl
          have ul : ∀ c p, ml N c p = if c = 69 + 3 * o.toNat ∧ j.toNat ≤ p ∧ p < j.toNat + n.toNat then ml m (69 + 3 * s.toNat) (i.toNat + (p - j.toNat)) else ml m c p := fun c p => by
            rw [← hN]
            show ml (cpl _ _ _ _ _ _) c p = _
            rw [ml_cpl]
          have uo : ∀ c p, c ≠ 70 + 3 * o.toNat → mi N c p = mi m c p := fun c p hc => by rw [u, if_neg (fun y => hc y.1)]
          have r70 : ∀ p, 0 ≤ mi N (70 + 3 * o.toNat) p ∧ mi N (70 + 3 * o.toNat) p ≤ 1 := fun p => by
            rw [u]
            split
            · exact h.r70 hs _
            · exact h.r70 ho _
          show St N ∧ IM N ∧ n = (shiR N s i o j n).1 ∧ Inv (shiR N s i o j n).2
          rw [f2 N (fun t => uo _ _ (by omega)) (fun t => uo _ _ (by omega))]
          refine ⟨shc_st h.s uz, h.i.shc ho (fun c p hc => uo c p (by omega)) (by rw [uo _ _ (by omega)]; omega) (by rw [uo _ _ (by omega)]; exact q3) (by rw [uo _ _ (by omega)]; exact q4) r70, rfl, ?_⟩
          show Inv (shM N s i o j n)
          obtain ⟨a1, a2, a3⟩ := shA_at s i c.1.1 (by omega) n.toNat 0 N (by decide)
          obtain ⟨d1, d2, d3⟩ := shB_at o j c.2.1 (by omega) n.toNat 0 (shA s i n.toNat 0 N) (by decide)
          unfold shM
          generalize shA s i n.toNat 0 N = A at a1 a2 a3 d1 d2 d3
          generalize shB o j n.toNat 0 A = K at d1 d2 d3
          have w142 : ∀ p, mi K 142 p = if 60 * o.toNat + j.toNat ≤ p ∧ p < 60 * o.toNat + j.toNat + n.toNat then mi m 142 (60 * s.toNat + i.toNat + (p - (60 * o.toNat + j.toNat))) else mi m 142 p := fun p => by
            rw [d2]
            by_cases y : 60 * o.toNat + j.toNat ≤ p ∧ p < 60 * o.toNat + j.toNat + n.toNat
            · rw [if_pos (by omega), if_pos y, a2, if_pos (by omega), uo _ _ (by omega)]
              congr 1
              omega
            · rw [if_neg (by omega), if_neg y, a2, if_neg (by omega), uo _ _ (by omega)]
          have w141 : ∀ p, ml K 141 p = if 60 * o.toNat + j.toNat ≤ p ∧ p < 60 * o.toNat + j.toNat + n.toNat then ml m 141 (60 * s.toNat + i.toNat + (p - (60 * o.toNat + j.toNat))) else ml m 141 p := fun p => by
            rw [d3]
            by_cases y : 60 * o.toNat + j.toNat ≤ p ∧ p < 60 * o.toNat + j.toNat + n.toNat
            · rw [if_pos (by omega), if_pos y, a3, if_pos (by omega), ul, if_neg (by omega)]
              congr 1
              omega
            · rw [if_neg (by omega), if_neg y, a3, if_neg (by omega), ul, if_neg (by omega)]
          have w : ∀ c p, c ≠ 142 → c ≠ 144 → mi K c p = mi N c p := fun c p y1 y2 => by
            rw [d2, if_neg (fun y => y1 y.1), a2, if_neg (fun y => y2 y.1)]
          have wl : ∀ c p, c ≠ 141 → c ≠ 143 → ml K c p = ml N c p := fun c p y1 y2 => by
            rw [d3, if_neg (fun y => y1 y.1), a3, if_neg (fun y => y2 y.1)]
          have w144 : ∀ p, 0 ≤ mi K 144 p ∧ mi K 144 p ≤ 1 := fun p => by
            rw [d2, if_neg (by omega), a2]
            split
            · rw [uo _ _ (by omega)]; exact h.i.a 142 0 1 (by decide) _
            · rw [uo _ _ (by omega)]; exact h.i.a 144 0 1 (by decide) _
          generalize s.toNat = t at *
          generalize o.toNat = v at *
          generalize i.toNat = i' at *
          generalize j.toNat = j' at *
          generalize n.toNat = n' at *
          refine h.sh1 ho (d1.trans (a1.trans uz)) (fun c p c0 c1 c2 c3 c4 => ?_) (fun c p c1 c2 c3 => ?_) (by rw [w _ _ (by omega) (by omega), uo _ _ (by omega)]; omega) (by rw [w _ _ (by omega) (by omega), uo _ _ (by omega)]; exact q3) (by rw [w _ _ (by omega) (by omega), uo _ _ (by omega)]; exact q4) (by rw [w _ _ (by omega) (by omega), uo _ _ (by omega)]; exact h.i.a 140 0 60 (by decide) v) (fun p => by rw [w _ _ (by omega) (by omega)]; exact r70 p) (fun p => ?_) w144 ?_
          · by_cases y : c = 142
            · rw [y, w142, if_neg (by omega)]
            · rw [w _ _ y c0, uo _ _ (by omega)]
          · by_cases y : c = 141
            · rw [y, w141, if_neg (by omega)]
            · rw [wl _ _ y c1, ul, if_neg (by omega)]
          · rw [w142]
            split
            · exact h.i.a 142 0 1 (by decide) _
            · exact h.i.a 142 0 1 (by decide) _
          · unfold K7s at k2' ⊢
            rw [w _ _ (by omega) (by omega), uo _ _ (by omega), w _ _ (by omega) (by omega), uo _ _ (by omega), w _ _ (by omega) (by omega), uo _ _ (by omega), w _ _ (by omega) (by omega), uo _ _ (by omega), w _ _ (by omega) (by omega), uo _ _ (by omega)]
            refine ⟨fun y => ⟨(k2'.1 y).1, (k2'.1 y).2.1, fun x hx => ?_⟩, k2'.2⟩
            rw [wl _ _ (by omega) (by omega), ul, w141, w _ _ (by omega) (by omega), u, w142, show 68 + 3 * v + 1 = 69 + 3 * v by omega, show 68 + 3 * v + 2 = 70 + 3 * v by omega]
            by_cases y : j' ≤ x ∧ x < j' + n'
            · have g := ks (i' + (x - j')) (by omega)
              rw [show 68 + 3 * t + 1 = 69 + 3 * t by omega, show 68 + 3 * t + 2 = 70 + 3 * t by omega] at g
              rw [if_pos ⟨rfl, y⟩, if_pos (by omega), if_pos ⟨rfl, y⟩, if_pos (by omega), show 60 * t + i' + (60 * v + x - (60 * v + j')) = 60 * t + (i' + (x - j')) by omega]
              exact g
            · have g := ko x hx
              rw [show 68 + 3 * v + 1 = 69 + 3 * v by omega, show 68 + 3 * v + 2 = 70 + 3 * v by omega] at g
              rw [if_neg (fun q => y q.2), if_neg (by omega), if_neg (fun q => y q.2), if_neg (by omega)]
              exact g
  · refine keyP_no h (v := -1) ?_ ?_
    · unfold FX11_shift
      by_cases z : 0 ≤ s ∧ s ≤ 5
      · rw [if_pos z, if_neg (fun y => c ⟨z, y⟩)]
      · rw [if_neg z]
    · show shiR m s i o j n = _
      unfold shiR
      rw [if_neg c]
theorem ag_shift {G : QW} {m : AM} {s i o j n : Int} (h : Inv m) (hs1 : -2147483648 ≤ s) (hs2 : s < 2147483648) (hi1 : -2147483648 ≤ i) (hi2 : i < 2147483648) (ho1 : -2147483648 ≤ o) (ho2 : o < 2147483648) (hj1 : -2147483648 ≤ j) (hj2 : j < 2147483648) (hn1 : -2147483648 ≤ n) (hn2 : n < 2147483648) : AG G mX11_shift mX12_shift 2 2 0 0 [vI s, vI i, vI o, vI j, vI n] m :=
  AG.key (g := fun N => shiR N s i o j n) (cg_shift h.s h.i hs1 hs2 hi1 hi2 ho1 ho2 hj1 hj2 hn1 hn2 h.l4 h.l4 (fun q k => by
    have r := h.r70 (t := s.toNat) (by omega) k
    rw [show 68 + 3 * s.toNat + 2 = 70 + 3 * s.toNat by omega]
    omega)) (fun a b => ct_X12_shift a b hs1 hs2 hi1 hi2 ho1 ho2 hj1 hj2 hn1 hn2) (key_shift h s i o j n)

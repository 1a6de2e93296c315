/-! rows and shifts -/
theorem rwL_at : ∀ (x : Nat) (k : Int) (N : AM), 0 ≤ k → (rwL x k N).2.2 = N.2.2 ∧ (∀ c j, mi (rwL x k N) c j = if c = 142 ∧ k ≤ (j : Int) ∧ (j : Int) < k + x then 0 else mi N c j) ∧ ∀ c j, ml (rwL x k N) c j = if c = 141 ∧ k ≤ (j : Int) ∧ (j : Int) < k + x then 0 else ml N c j := by
  intro x
  induction x with
  | zero =>
    intro k N h
    exact ⟨rfl, fun c j => by rw [if_neg (by omega)]; rfl, fun c j => by rw [if_neg (by omega)]; rfl⟩
  | succ x ih =>
    intro k N h
    obtain ⟨a, b, d⟩ := ih (k + 1) (si (sl N 141 k.toNat 0) 142 k.toNat 0) (by omega)
    refine ⟨a, fun c j => ?_, fun c j => ?_⟩
    · show mi (rwL x (k + 1) _) c j = _
      rw [b, mi_si, mi_sl]
      by_cases q : c = 142 ∧ k + 1 ≤ (j : Int) ∧ (j : Int) < k + 1 + x
      · rw [if_pos q, if_pos (by omega)]
      · rw [if_neg q]
        by_cases q2 : c = 142 ∧ j = k.toNat
        · rw [if_pos q2, if_pos (by omega)]; decide
        · rw [if_neg q2, if_neg (by omega)]
    · show ml (rwL x (k + 1) _) c j = _
      rw [d, ml_si, ml_sl]
      by_cases q : c = 141 ∧ k + 1 ≤ (j : Int) ∧ (j : Int) < k + 1 + x
      · rw [if_pos q, if_pos (by omega)]
      · rw [if_neg q]
        by_cases q2 : c = 141 ∧ j = k.toNat
        · rw [if_pos q2, if_pos (by omega)]; decide
        · rw [if_neg q2, if_neg (by omega)]
theorem holdRow_at (m : AM) (o : Nat) {sort n : Int} (hs : -2147483648 ≤ sort ∧ sort < 2147483648) (hn : -2147483648 ≤ n ∧ n < 2147483648) : (FX7_holdRow m o sort n).2.2 = m.2.2 ∧ (mi (FX7_holdRow m o sort n) o 2 = -1 ∧ mi (FX7_holdRow m o sort n) o 3 = sort ∧ mi (FX7_holdRow m o sort n) o 4 = n) ∧ (∀ j, mi (FX7_holdRow m o sort n) (o + 2) j = if j < 60 then 0 else mi m (o + 2) j) ∧ (∀ c j, c ≠ o → c ≠ o + 2 → mi (FX7_holdRow m o sort n) c j = mi m c j) ∧ ∀ c j, ml (FX7_holdRow m o sort n) c j = if c = o + 1 ∧ j < 60 then 0 else ml m c j := by
  have e : ∀ c j, mi (FX7_holdRow m o sort n) c j = if c = o + 2 ∧ (0 : Int) ≤ (j : Int) ∧ (j : Int) < ((60 : Nat) : Int) then 0 else mi (si (si (si m o 2 (-1)) o 3 sort) o 4 n) c j := fun c j => by
    unfold FX7_holdRow
    rw [mi_fil]
    rfl
  refine ⟨rfl, ⟨?_, ?_, ?_⟩, fun j => ?_, fun c j h1 h2 => ?_, fun c j => ?_⟩
  · rw [e, if_neg (by omega), mi_si_ne _ _ (by omega), mi_si_ne _ _ (by omega), mi_si_same _ _ _ (by decide) (by decide)]
  · rw [e, if_neg (by omega), mi_si_ne _ _ (by omega), mi_si_same _ _ _ hs.1 hs.2]
  · rw [e, if_neg (by omega), mi_si_same _ _ _ hn.1 hn.2]
  · rw [e]
    by_cases q : j < 60
    · rw [if_pos (by omega), if_pos q]
    · rw [if_neg (by omega), if_neg q, mi_si_ne _ _ (by omega), mi_si_ne _ _ (by omega), mi_si_ne _ _ (by omega)]
  · rw [e, if_neg (by omega), mi_si_ne _ _ (by omega), mi_si_ne _ _ (by omega), mi_si_ne _ _ (by omega)]
  · unfold FX7_holdRow
    show ml (flL _ _ _ _ _) c j = _
    rw [ml_flL]
    by_cases q : c = o + 1 ∧ j < 60
    · rw [if_pos (by omega), if_pos q]; decide
    · rw [if_neg (by omega), if_neg q]
      rfl
theorem key_row {m : AM} (h : Inv m) (s sort n : Int) : KeyP (FX11_row m s sort n) (fun N => rowR N s sort n) := by
  by_cases c : (0 ≤ s ∧ s ≤ 5) ∧ (0 ≤ sort ∧ sort ≤ 4) ∧ n ≤ 60
  · by_cases cn : n < 0
    · refine keyP_no h (v := -14) ?_ ?_
      · unfold FX11_row
        rw [if_pos c.1, if_neg (show ¬ sort < 0 by omega), if_neg (show ¬ sort > 4 by omega), if_pos c.2.2, if_neg (show ¬ n ≥ 0 by omega)]
      · show rowR m s sort n = _
        unfold rowR
        rw [if_pos c, if_pos cn]
    · have f1 : FX11_row m s sort n = (1, FX7_holdRow m (68 + 3 * s.toNat) sort n) := by
        unfold FX11_row
        rw [if_pos c.1, if_neg (show ¬ sort < 0 by omega), if_neg (show ¬ sort > 4 by omega), if_pos c.2.2, if_pos (show n ≥ 0 by omega)]
      have f2 : ∀ N, rowR N s sort n = (1, rowM N s sort n) := fun N => by
        unfold rowR
        rw [if_pos c, if_neg cn]
      obtain ⟨uz, ⟨u2, u3, u4⟩, u5, uo, u⟩ := holdRow_at m (68 + 3 * s.toNat) (sort := sort) (n := n) (by omega) (by omega)
      rw [f1]
      unfold KeyP
      show St (FX7_holdRow m (68 + 3 * s.toNat) sort n) ∧ IM (FX7_holdRow m (68 + 3 * s.toNat) sort n) ∧ (1 : Int) = (rowR (FX7_holdRow m (68 + 3 * s.toNat) sort n) s sort n).1 ∧ Inv (rowR (FX7_holdRow m (68 + 3 * s.toNat) sort n) s sort n).2
      rw [f2]
      show St (FX7_holdRow m (68 + 3 * s.toNat) sort n) ∧ IM (FX7_holdRow m (68 + 3 * s.toNat) sort n) ∧ (1 : Int) = 1 ∧ Inv (rowM (FX7_holdRow m (68 + 3 * s.toNat) sort n) s sort n)
      generalize FX7_holdRow m (68 + 3 * s.toNat) sort n = N at uz u2 u3 u4 u5 uo u
      have hst : s = ((s.toNat : Nat) : Int) := by omega
      have ht : s.toNat < 6 := by omega
      unfold rowM
      rw [show 60 * s = 60 * ((s.toNat : Nat) : Int) by omega]
      generalize s.toNat = t at *
      rw [show 68 + 3 * t + 2 = 70 + 3 * t by omega] at u5 uo
      have h16 := h.i.s 0 16 0 6 (by decide)
      have r70 : ∀ j, 0 ≤ mi N (70 + 3 * t) j ∧ mi N (70 + 3 * t) j ≤ 1 := fun j => by
        rw [u5]
        split
        · decide
        · exact h.r70 ht j
      refine ⟨shc_st h.s uz, h.i.shc ht (fun c j hc => uo c j (by omega) (by omega)) (by omega) (by omega) (by omega) r70, rfl, ?_⟩
      obtain ⟨vz, v, vl⟩ := rwL_at 60 (60 * ((t : Nat) : Int)) (si (si N 139 t (-2 - sort)) 140 t n) (by omega)
      generalize rwL 60 (60 * ((t : Nat) : Int)) (si (si N 139 t (-2 - sort)) 140 t n) = K at vz v vl
      have w : ∀ c j, ¬ (c = 142) → ¬ (c = 139 ∧ j = t) → ¬ (c = 140 ∧ j = t) → mi K c j = mi N c j := fun c j h1 h2 h3 => by
        rw [v, if_neg (by omega), mi_si_ne _ _ h3, mi_si_ne _ _ h2]
      have w139 : mi K 139 t = -2 - sort := by rw [v, if_neg (by omega), mi_si_ne _ _ (by omega), mi_si_same _ _ _ (by omega) (by omega)]
      have w140 : mi K 140 t = n := by rw [v, if_neg (by omega), mi_si_same _ _ _ (by omega) (by omega)]
      have w142 : ∀ j, mi K 142 j = if 60 * t ≤ j ∧ j < 60 * t + 60 then 0 else mi m 142 j := fun j => by
        rw [v]
        by_cases q : 60 * t ≤ j ∧ j < 60 * t + 60
        · rw [if_pos (by omega), if_pos q]
        · rw [if_neg (by omega), if_neg q, mi_si_ne _ _ (by omega), mi_si_ne _ _ (by omega), uo _ _ (by omega) (by omega)]
      have wl : ∀ c j, ml K c j = if c = 141 ∧ 60 * t ≤ j ∧ j < 60 * t + 60 then 0 else ml N c j := fun c j => by
        rw [vl]
        by_cases q : c = 141 ∧ 60 * t ≤ j ∧ j < 60 * t + 60
        · rw [if_pos (by omega), if_pos q]
        · rw [if_neg (by omega), if_neg q]; rfl
      refine h.sh1 ht (vz.trans uz) (fun c j _ c1 c2 c3 c4 => ?_) (fun c j _ c2 c3 => by rw [wl, if_neg c3, u, if_neg (by omega)]) (by rw [w _ _ (by omega) (by omega) (by omega), u2]; omega) (by rw [w _ _ (by omega) (by omega) (by omega), u3]; omega) (by rw [w _ _ (by omega) (by omega) (by omega), u4]; omega) (by rw [w140]; omega) (fun j => by rw [w _ _ (by omega) (by omega) (by omega)]; exact r70 j) (fun j => ?_) (fun j => by rw [w _ _ (by omega) (by omega) (by omega), uo _ _ (by omega) (by omega)]; exact h.i.a 144 0 1 (by decide) j) ?_
      · by_cases q : c = 142
        · rw [q, w142, if_neg (by omega)]
        · rw [w _ _ q c2 c3, uo _ _ (by omega) (by omega)]
      · rw [w142]
        split
        · decide
        · exact h.i.a 142 0 1 (by decide) j
      · unfold K7s
        rw [w _ _ (by omega) (by omega) (by omega), w _ _ (by omega) (by omega) (by omega), w _ _ (by omega) (by omega) (by omega), u2, u3, u4, w139, w140, if_pos (by omega)]
        refine ⟨fun _ => ⟨rfl, rfl, fun i hi => ?_⟩, rfl⟩
        rw [wl, if_neg (by omega), u, if_pos ⟨rfl, hi⟩, wl, if_pos (by omega), w _ _ (by omega) (by omega) (by omega), show 68 + 3 * t + 2 = 70 + 3 * t by omega, u5, if_pos hi, w142, if_pos (by omega)]
        exact ⟨rfl, rfl⟩
  · refine keyP_no h (v := -1) ?_ ?_
    · unfold FX11_row
      by_cases c1 : 0 ≤ s ∧ s ≤ 5
      · rw [if_pos c1]
        by_cases c2 : sort < 0
        · rw [if_pos c2]
        · rw [if_neg c2]
          by_cases c3 : sort > 4
          · rw [if_pos c3]
          · rw [if_neg c3, if_neg (by omega)]
      · rw [if_neg c1]
    · show rowR m s sort n = _
      unfold rowR
      rw [if_neg c]
theorem ag_row {G : QW} {m : AM} {s k n : Int} (h : Inv m) (hs1 : -2147483648 ≤ s) (hs2 : s < 2147483648) (hk1 : -2147483648 ≤ k) (hk2 : k < 2147483648) (hn1 : -2147483648 ≤ n) (hn2 : n < 2147483648) : AG G mX11_row mX12_row 2 2 0 0 [vI s, vI k, vI n] m :=
  AG.key (g := fun N => rowR N s k n) (ct_X11_row h.s h.i hs1 hs2 hk1 hk2 hn1 hn2) (fun a b => ct_X12_row a b hs1 hs2 hk1 hk2 hn1 hn2) (key_row h s k n)

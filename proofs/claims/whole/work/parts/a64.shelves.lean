/-! the shelves: both sides write the same -/
theorem shc_st {m N : AM} (hS : St m) (e : N.2.2 = m.2.2) : St N := by
  have e1 : mr N = mr m := congrArg (fun q => q.1) e
  have e2 : mk N = mk m := congrArg (fun q => q.2.1) e
  have e3 : mn N = mn m := congrArg (fun q => q.2.2.1) e
  have e4 : mz N = mz m := congrArg (fun q => q.2.2.2) e
  unfold St
  rw [e1, e2, e3, e4]
  exact hS
/-- what a call that writes asks for -/
def KeyP (f : Int × AM) (g : AM → Int × AM) : Prop := St f.2 ∧ IM f.2 ∧ f.1 = (g f.2).1 ∧ Inv (g f.2).2
theorem keyP_no {m : AM} (h : Inv m) {f : Int × AM} {g : AM → Int × AM} {v : Int} (e1 : f = (v, m)) (e2 : g m = (v, m)) : KeyP f g := by
  rw [e1]
  refine ⟨h.s, h.i, ?_, ?_⟩
  · show v = (g m).1
    rw [e2]
  · show Inv (g m).2
    rw [e2]; exact h
theorem AG.key {G : QW} {mc mm : MD} {d d2 : Nat} {as : List Vl} {m : AM} {f : Int × AM} {g : AM → Int × AM} (c : qM G mc d 0 0 (vR 0 :: as) m (fun r m' => r = some (vI f.1) ∧ m' = f.2)) (k : St f.2 → IM f.2 → qM G mm d2 0 0 (vR 86 :: as) f.2 (fun r m' => r = some (vI (g f.2).1) ∧ m' = (g f.2).2)) (e : KeyP f g) (ht : 0 = tgr mc.r := by rfl) : AG G mc mm d d2 0 0 as m := AG.fn (g := g) c (k e.1 e.2.1) e.2.2.1 e.2.2.2 e.1 ht
theorem key_keep {m : AM} (h : Inv m) (s b : Int) : KeyP (FX11_keep m s b) (fun N => FX12_keep N s b) := by
  have e16 : mi m 0 16 = mi m 86 1 := h.1.2.1.1
  have h16 := h.i.s 0 16 0 6 (by decide)
  by_cases c : 0 ≤ s ∧ s ≤ 5
  · by_cases c2 : b = -1 ∨ (0 ≤ b ∧ b < mi m 0 16)
    · have hb : -2147483648 ≤ b ∧ b < 2147483648 := by omega
      have f1 : FX11_keep m s b = (1, FX7_holdBox m (68 + 3 * s.toNat) b) := by
        unfold FX11_keep
        rw [if_pos c]
        by_cases q : b = -1
        · rw [if_pos q]
        · rw [if_neg q, if_pos (by omega)]
      have f2 : ∀ N, mi N 86 1 = mi m 86 1 → FX12_keep N s b = (1, si N 139 s.toNat b) := fun N eN => by
        unfold FX12_keep
        rw [if_pos c]
        by_cases q : b = -1
        · rw [if_pos q]
        · rw [if_neg q, if_pos (by omega)]
      have ht : s.toNat < 6 := by omega
      generalize s.toNat = t at f1 f2 ht
      have uo : ∀ c j, c ≠ 68 + 3 * t → mi (FX7_holdBox m (68 + 3 * t) b) c j = mi m c j := fun c j hc => by
        unfold FX7_holdBox
        rw [mi_si_ne _ _ (fun z => hc z.1), mi_si_ne _ _ (fun z => hc z.1), mi_si_ne _ _ (fun z => hc z.1)]
      have u2 : mi (FX7_holdBox m (68 + 3 * t) b) (68 + 3 * t) 2 = b := by
        unfold FX7_holdBox
        rw [mi_si_ne _ _ (by omega), mi_si_ne _ _ (by omega), mi_si_same _ _ _ hb.1 hb.2]
      have u3 : mi (FX7_holdBox m (68 + 3 * t) b) (68 + 3 * t) 3 = -1 := by
        unfold FX7_holdBox
        rw [mi_si_ne _ _ (by omega), mi_si_same _ _ _ (by decide) (by decide)]
      have u4 : mi (FX7_holdBox m (68 + 3 * t) b) (68 + 3 * t) 4 = 0 := by
        unfold FX7_holdBox
        rw [mi_si_same _ _ _ (by decide) (by decide)]
      have um : ∀ c j, ml (FX7_holdBox m (68 + 3 * t) b) c j = ml m c j := fun c j => rfl
      have uz : (FX7_holdBox m (68 + 3 * t) b).2.2 = m.2.2 := rfl
      rw [f1]
      unfold KeyP
      show St (FX7_holdBox m (68 + 3 * t) b) ∧ IM (FX7_holdBox m (68 + 3 * t) b) ∧ (1 : Int) = (FX12_keep (FX7_holdBox m (68 + 3 * t) b) s b).1 ∧ Inv (FX12_keep (FX7_holdBox m (68 + 3 * t) b) s b).2
      rw [f2 _ (uo 86 1 (by omega))]
      generalize FX7_holdBox m (68 + 3 * t) b = N at uo u2 u3 u4 um uz
      have h70 : ∀ j, 0 ≤ mi m (70 + 3 * t) j ∧ mi m (70 + 3 * t) j ≤ 1 := fun j => by
        have q : (70 + 3 * t, (0 : Int), (1 : Int)) ∈ imA := by
          rcases (by omega : t = 0 ∨ t = 1 ∨ t = 2 ∨ t = 3 ∨ t = 4 ∨ t = 5) with rfl | rfl | rfl | rfl | rfl | rfl <;> decide
        exact h.i.a _ 0 1 q j
      refine ⟨shc_st h.s uz, h.i.shc ht (fun c j hc => uo c j (by omega)) (by omega) (by omega) (by omega) (fun j => by rw [uo _ _ (by omega)]; exact h70 j), rfl, ?_⟩
      show Inv (si N 139 t b)
      refine h.sh1 ht uz (fun c j _ c1 c2 c3 c4 => by rw [mi_si_ne _ _ c2, uo _ _ (by omega)]) (fun c j _ _ _ => um c j) (by rw [mi_si_ne _ _ (by omega), u2]; omega) (by rw [mi_si_ne _ _ (by omega), u3]; decide) (by rw [mi_si_ne _ _ (by omega), u4]; decide) (by rw [mi_si_ne _ _ (by omega), uo _ _ (by omega)]; exact h.i.a 140 0 60 (by decide) t) (fun j => by rw [mi_si_ne _ _ (by omega), uo _ _ (by omega)]; exact h70 j) (fun j => by rw [mi_si_ne _ _ (by omega), uo _ _ (by omega)]; exact h.i.a 142 0 1 (by decide) j) (fun j => by rw [mi_si_ne _ _ (by omega), uo _ _ (by omega)]; exact h.i.a 144 0 1 (by decide) j) ?_
      unfold K7s
      rw [mi_si_ne _ _ (by omega), mi_si_ne _ _ (by omega), mi_si_ne _ _ (by omega), mi_si_same _ _ _ hb.1 hb.2, u3, u2]
      exact ⟨fun q => absurd rfl q, rfl⟩
    · refine keyP_no h (v := -1) ?_ ?_
      · unfold FX11_keep
        rw [if_pos c, if_neg (fun q => c2 (Or.inl q)), if_neg (fun q => c2 (Or.inr q))]
      · show FX12_keep m s b = _
        unfold FX12_keep
        rw [if_pos c, if_neg (fun q => c2 (Or.inl q)), if_neg (fun q => c2 (Or.inr (by omega)))]
  · refine keyP_no h (v := -1) ?_ ?_
    · unfold FX11_keep
      rw [if_neg c]
    · show FX12_keep m s b = _
      unfold FX12_keep
      rw [if_neg c]
theorem ag_keep {G : QW} {m : AM} {s b : Int} (h : Inv m) (hs1 : -2147483648 ≤ s) (hs2 : s < 2147483648) (hb1 : -2147483648 ≤ b) (hb2 : b < 2147483648) : AG G mX11_keep mX12_keep 1 2 0 0 [vI s, vI b] m :=
  AG.key (g := fun N => FX12_keep N s b) (ct_X11_keep h.s h.i hs1 hs2 hb1 hb2) (fun a b => ct_X12_keep a b hs1 hs2 hb1 hb2) (key_keep h s b)
theorem Inv.r70 {m : AM} (h : Inv m) {t : Nat} (ht : t < 6) (j : Nat) : 0 ≤ mi m (70 + 3 * t) j ∧ mi m (70 + 3 * t) j ≤ 1 := by
  have q : (70 + 3 * t, (0 : Int), (1 : Int)) ∈ imA := by
    rcases (by omega : t = 0 ∨ t = 1 ∨ t = 2 ∨ t = 3 ∨ t = 4 ∨ t = 5) with rfl | rfl | rfl | rfl | rfl | rfl <;> decide
  exact h.i.a _ 0 1 q j
/-- a place of a row is set, a number and whether it lacks -/
def plC (m : AM) (t i : Nat) (w l : Int) (B : Bool) : AM := if B then sl (si m (70 + 3 * t) i l) (69 + 3 * t) i w else si m (70 + 3 * t) i l
def plR (m : AM) (t i : Nat) (w l : Int) (B : Bool) : AM := if B then si (sl m 141 (60 * t + i) w) 142 (60 * t + i) l else si m 142 (60 * t + i) l
theorem plC_i (m : AM) (t i : Nat) (w l : Int) (B : Bool) : mi (plC m t i w l B) = mi (si m (70 + 3 * t) i l) := by
  unfold plC
  split <;> rfl
theorem plR_i (m : AM) (t i : Nat) (w l : Int) (B : Bool) : mi (plR m t i w l B) = mi (si m 142 (60 * t + i) l) := by
  unfold plR
  split <;> rfl
theorem key_pl {m : AM} (h : Inv m) {t i : Nat} (ht : t < 6) (hi : i < 60) (w l : Int) (hl : l = 0 ∨ l = 1) (B : Bool) (h3 : mi m (68 + 3 * t) 3 ≠ -1) : St (plC m t i w l B) ∧ IM (plC m t i w l B) ∧ Inv (plR (plC m t i w l B) t i w l B) := by
  have hll : -2147483648 ≤ l ∧ l < 2147483648 := by omega
  have uz : (plC m t i w l B).2.2 = m.2.2 := by
    unfold plC
    split <;> rfl
  have uo : ∀ c j, c ≠ 70 + 3 * t → mi (plC m t i w l B) c j = mi m c j := fun c j hc => by rw [plC_i, mi_si_ne _ _ (fun z => hc z.1)]
  have u70 : ∀ j, mi (plC m t i w l B) (70 + 3 * t) j = if j = i then l else mi m (70 + 3 * t) j := fun j => by
    rw [plC_i]
    by_cases q : j = i
    · rw [if_pos q, q, mi_si_same _ _ _ hll.1 hll.2]
    · rw [if_neg q, mi_si_ne _ _ (fun z => q z.2)]
  have r70 : ∀ j, 0 ≤ mi (plC m t i w l B) (70 + 3 * t) j ∧ mi (plC m t i w l B) (70 + 3 * t) j ≤ 1 := fun j => by
    rw [u70]
    split
    · omega
    · exact h.r70 ht j
  have u : ∀ c j, ml (plC m t i w l B) c j = if B = true ∧ c = 69 + 3 * t ∧ j = i then (zl w).toInt else ml m c j := fun c j => by
    unfold plC
    cases B
    · rw [if_neg (by simp), if_neg (by simp)]; rfl
    · rw [if_pos rfl, ml_sl]
      by_cases q : c = 69 + 3 * t ∧ j = i
      · rw [if_pos q, if_pos ⟨rfl, q⟩]
      · rw [if_neg q, if_neg (fun z => q z.2)]; rfl
  have l4 := h.l4 (s := (t : Int)) (by omega)
  rw [show ((t : Nat) : Int).toNat = t by omega] at l4
  have se := shelf_eq h (s := (t : Int)) (by omega)
  rw [show ((t : Nat) : Int).toNat = t by omega] at se
  have lt := (h.i.2.2 t ht).2
  generalize plC m t i w l B = N at uz uo u70 u r70
  have i1 : IM N := h.i.shc ht (fun c j hc => uo c j (by omega)) (by rw [uo _ _ (by omega)]; omega) (by rw [uo _ _ (by omega)]; exact se.2.2.2.1) (by rw [uo _ _ (by omega)]; exact l4) r70
  refine ⟨shc_st h.s uz, i1, ?_⟩
  have vz : (plR N t i w l B).2.2 = m.2.2 := by
    unfold plR
    split <;> exact uz
  have vo : ∀ c j, ¬ (c = 142 ∧ j = 60 * t + i) → mi (plR N t i w l B) c j = mi N c j := fun c j hc => by rw [plR_i, mi_si_ne _ _ hc]
  have v1 : mi (plR N t i w l B) 142 (60 * t + i) = l := by rw [plR_i, mi_si_same _ _ _ hll.1 hll.2]
  have v : ∀ c j, ml (plR N t i w l B) c j = if B = true ∧ c = 141 ∧ j = 60 * t + i then (zl w).toInt else ml N c j := fun c j => by
    unfold plR
    cases B
    · rw [if_neg (by simp), if_neg (by simp)]; rfl
    · rw [if_pos rfl, ml_si, ml_sl]
      by_cases q : c = 141 ∧ j = 60 * t + i
      · rw [if_pos q, if_pos ⟨rfl, q⟩]
      · rw [if_neg q, if_neg (fun z => q z.2)]
  generalize plR N t i w l B = K at vz vo v1 v
  have k7 := h.k7 t ht
  refine h.sh1 ht vz (fun c j _ c1 c2 c3 c4 => by rw [vo _ _ (fun z => c4 (by omega)), uo _ _ (by omega)]) (fun c j _ c2 c3 => by rw [v, if_neg (fun z => c3 (by omega)), u, if_neg (fun z => c2 z.2.1)]) (by rw [vo _ _ (by omega), uo _ _ (by omega)]; omega) (by rw [vo _ _ (by omega), uo _ _ (by omega)]; exact se.2.2.2.1) (by rw [vo _ _ (by omega), uo _ _ (by omega)]; exact l4) (by rw [vo _ _ (by omega), uo _ _ (by omega)]; exact h.i.a 140 0 60 (by decide) t) (fun j => by rw [vo _ _ (by omega)]; exact r70 j) (fun j => ?_) (fun j => by rw [vo _ _ (by omega), uo _ _ (by omega)]; exact h.i.a 144 0 1 (by decide) j) ?_
  · by_cases q : j = 60 * t + i
    · rw [q, v1]; omega
    · rw [vo _ _ (fun z => q z.2)]; exact i1.a 142 0 1 (by decide) j
  · unfold K7s at *
    rw [vo _ _ (by omega), uo _ _ (by omega), vo _ _ (by omega), uo _ _ (by omega), vo _ _ (by omega), uo _ _ (by omega), vo _ _ (by omega), uo _ _ (by omega), vo _ _ (by omega), uo _ _ (by omega)]
    refine ⟨fun q => ⟨(k7.1 q).1, (k7.1 q).2.1, fun x hx => ?_⟩, k7.2⟩
    have g := (k7.1 q).2.2 x hx
    rw [show 68 + 3 * t + 1 = 69 + 3 * t by omega, show 68 + 3 * t + 2 = 70 + 3 * t by omega] at g ⊢
    by_cases c : x = i
    · rw [c, v1, vo _ _ (by omega), u70, if_pos rfl, v, v, if_neg (by omega), u]
      refine ⟨?_, rfl⟩
      cases B
      · rw [if_neg (by simp), if_neg (by simp), u, if_neg (by simp)]
        rw [← c]
        exact g.1
      · rw [if_pos ⟨rfl, rfl, rfl⟩, if_pos ⟨rfl, rfl, rfl⟩]
    · rw [vo 142 _ (by omega), vo _ _ (by omega), uo 142 _ (by omega), u70, if_neg c, v, if_neg (by omega), u, if_neg (by omega), v, if_neg (by omega), u, if_neg (by omega)]
      exact g
theorem FX7_set_pl {m : AM} {t : Nat} {i v : Int} : ∃ w, FX7_set m (68 + 3 * t) i v = plC m t i.toNat w (z_i2b 0) true ∧ w = (if mi m (68 + 3 * t) 3 = 0 then z_i2b (z_l2i v) else if mi m (68 + 3 * t) 3 = 1 then z_l2i v else if mi m (68 + 3 * t) 3 = 3 then z_l2f v else if mi m (68 + 3 * t) 3 = 4 then z_l2d v else v) := by
  have e3 : mi (si m ((68 + 3 * t) + 2) i.toNat (z_i2b 0)) (68 + 3 * t) 3 = mi m (68 + 3 * t) 3 := mi_si_ne _ _ (by omega)
  refine ⟨_, ?_, rfl⟩
  unfold FX7_set plC
  rw [e3, if_pos rfl, show 68 + 3 * t + 2 = 70 + 3 * t by omega, show 68 + 3 * t + 1 = 69 + 3 * t by omega]
  (repeat' split) <;> rfl
theorem key_put {m : AM} (h : Inv m) (s i v : Int) : KeyP (FX11_put m s i v) (fun N => FX12_put N s i v) := by
  have r := FX11_refusal_rng m s i
  by_cases c : FX11_refusalOf m s i = 0
  · have hs : 0 ≤ s ∧ s ≤ 5 := refusal_shG c
    obtain ⟨e1, e2, r2, r3, r4, k⟩ := shelf_eq h hs
    have hi := refusal_ok r4.2 c
    have c2 : mi m (68 + 3 * s.toNat) 3 ≠ -1 := fun z => by
      unfold FX11_refusalOf at c
      rw [if_pos hs] at c
      split at c
      · omega
      · rw [if_neg (fun q => q z)] at c; omega
    have f1 : FX11_put m s i v = (1, FX7_set m (68 + 3 * s.toNat) i v) := by
      unfold FX11_put
      rw [if_pos c]
    obtain ⟨w, ew, hw⟩ := FX7_set_pl (m := m) (t := s.toNat) (i := i) (v := v)
    rw [show z_i2b 0 = 0 by decide] at ew
    have f2 : ∀ N, FX12_whyNoPlace N s i = FX12_whyNoPlace m s i → mi N 139 s.toNat = mi m 139 s.toNat → FX12_put N s i v = (1, plR N s.toNat i.toNat w 0 true) := fun N eN e9 => by
      have w0 : FX12_whyNoPlace N s i ≥ 0 := by rw [eN, ← refusal_eq h]; omega
      have e10 : mi m 139 s.toNat = -2 - mi m (68 + 3 * s.toNat) 3 := k.2.trans (if_pos c2)
      unfold FX12_put plR
      rw [if_pos w0, e9, e10, hw, show ((60 * s) + i).toNat = 60 * s.toNat + i.toNat by omega, if_pos rfl, show -2 - (-2 - mi m (68 + 3 * s.toNat) 3) = mi m (68 + 3 * s.toNat) 3 by omega]
      generalize mi m (68 + 3 * s.toNat) 3 = r at r3 c2
      rcases (by omega : r = 0 ∨ r = 1 ∨ r = 2 ∨ r = 3 ∨ r = 4) with rfl | rfl | rfl | rfl | rfl <;> rfl
    rw [f1, ew]
    obtain ⟨g1, g2, g3⟩ := key_pl h (t := s.toNat) (i := i.toNat) (by omega) (by omega) w 0 (Or.inl rfl) true c2
    have uo : ∀ c j, c ≠ 70 + 3 * s.toNat → mi (plC m s.toNat i.toNat w 0 true) c j = mi m c j := fun c j hc => by rw [plC_i, mi_si_ne _ _ (fun z => hc z.1)]
    have q := f2 (plC m s.toNat i.toNat w 0 true) (by
      unfold FX12_whyNoPlace
      rw [uo 139 _ (by omega), uo 140 _ (by omega)]) (uo 139 _ (by omega))
    refine ⟨g1, g2, ?_, ?_⟩
    · show (1 : Int) = (FX12_put (plC m s.toNat i.toNat w 0 true) s i v).1
      rw [q]
    · show Inv (FX12_put (plC m s.toNat i.toNat w 0 true) s i v).2
      rw [q]
      exact g3
  · have neg : FX11_refusalOf m s i ≤ 0 := by
      unfold FX11_refusalOf
      (repeat' split) <;> omega
    refine keyP_no h (v := FX11_refusalOf m s i) ?_ ?_
    · unfold FX11_put
      rw [if_neg c]
    · show FX12_put m s i v = _
      unfold FX12_put
      rw [← refusal_eq h, if_neg (by omega)]
theorem ag_put {G : QW} {m : AM} {s i v : Int} (h : Inv m) (hs1 : -2147483648 ≤ s) (hs2 : s < 2147483648) (hi1 : -2147483648 ≤ i) (hi2 : i < 2147483648) (hv1 : -9223372036854775808 ≤ v) (hv2 : v < 9223372036854775808) : AG G mX11_put mX12_put 2 3 0 0 [vI s, vI i, vL v] m :=
  AG.key (g := fun N => FX12_put N s i v) (cg_put h.s h.i hs1 hs2 hi1 hi2 hv1 hv2 (fun q => (h.l4 q).2)) (fun a b => ct_X12_put a b hs1 hs2 hi1 hi2 hv1 hv2) (key_put h s i v)
theorem key_noNumber {m : AM} (h : Inv m) (s i : Int) : KeyP (FX11_noNumber m s i) (fun N => FX12_noNumber N s i) := by
  by_cases c : 0 ≤ s ∧ s ≤ 5
  · obtain ⟨e1, e2, r2, r3, r4, k⟩ := shelf_eq h c
    by_cases c1 : mi m (68 + 3 * s.toNat) 2 < 0 ∧ mi m (68 + 3 * s.toNat) 3 = -1
    · have R : FX11_refusalOf m s i = -11 := by unfold FX11_refusalOf; rw [if_pos c, if_pos c1]
      refine keyP_no h (v := -11) ?_ ?_
      · unfold FX11_noNumber
        rw [R, if_neg (by decide), if_neg (by decide)]
      · show FX12_noNumber m s i = _
        unfold FX12_noNumber
        rw [if_pos c, if_neg (fun q => q (e1.mpr c1))]
    · have ne : mi m 139 s.toNat ≠ -1 := fun z => c1 (e1.mp z)
      by_cases c2 : mi m (68 + 3 * s.toNat) 3 = 3 ∨ mi m (68 + 3 * s.toNat) 3 = 4
      · have c3 : mi m (68 + 3 * s.toNat) 3 ≠ -1 := by omega
        have e10 : mi m 139 s.toNat = -2 - mi m (68 + 3 * s.toNat) 3 := k.2.trans (if_pos c3)
        have l := (k.1 c3).2.1
        have R : FX11_refusalOf m s i = if 0 ≤ i ∧ i < mi m (68 + 3 * s.toNat) 4 then 0 else -13 := by
          unfold FX11_refusalOf
          rw [if_pos c, if_neg c1, if_pos c3]
          (repeat' split) <;> omega
        by_cases ci : 0 ≤ i ∧ i < mi m (68 + 3 * s.toNat) 4
        · rw [if_pos ci] at R
          have f1 : FX11_noNumber m s i = (1, plC m s.toNat i.toNat 0 1 false) := by
            unfold FX11_noNumber
            rw [R, if_neg (by decide), if_pos (by decide), if_pos c2, if_pos rfl]
            unfold FX7_setLacking plC
            rw [show 68 + 3 * s.toNat + 2 = 70 + 3 * s.toNat by omega, show z_i2b 1 = 1 by decide]
            rfl
          have f2 : ∀ N, mi N 139 s.toNat = mi m 139 s.toNat → mi N 140 s.toNat = mi m 140 s.toNat → FX12_noNumber N s i = (1, plR N s.toNat i.toNat 0 1 false) := fun N a b => by
            unfold FX12_noNumber
            rw [if_pos c, a, if_pos ne, if_pos (by omega), b, if_pos (by omega), show ((60 * s) + i).toNat = 60 * s.toNat + i.toNat by omega]
            rfl
          obtain ⟨g1, g2, g3⟩ := key_pl h (t := s.toNat) (i := i.toNat) (by omega) (by omega) 0 1 (Or.inr rfl) false c3
          have uo : ∀ c j, c ≠ 70 + 3 * s.toNat → mi (plC m s.toNat i.toNat 0 1 false) c j = mi m c j := fun c j hc => by rw [plC_i, mi_si_ne _ _ (fun z => hc z.1)]
          have q := f2 (plC m s.toNat i.toNat 0 1 false) (uo 139 _ (by omega)) (uo 140 _ (by omega))
          rw [f1]
          refine ⟨g1, g2, ?_, ?_⟩
          · show (1 : Int) = (FX12_noNumber (plC m s.toNat i.toNat 0 1 false) s i).1
            rw [q]
          · show Inv (FX12_noNumber (plC m s.toNat i.toNat 0 1 false) s i).2
            rw [q]
            exact g3
        · rw [if_neg ci] at R
          refine keyP_no h (v := -13) ?_ ?_
          · unfold FX11_noNumber
            rw [R, if_neg (by decide), if_pos (by decide), if_pos c2, if_neg (by decide)]
          · show FX12_noNumber m s i = _
            unfold FX12_noNumber
            rw [if_pos c, if_pos ne, if_pos (by omega), if_neg (by omega)]
      · have R : FX11_refusalOf m s i ≠ -1 ∧ FX11_refusalOf m s i ≠ -11 := by
          unfold FX11_refusalOf
          rw [if_pos c, if_neg c1]
          (repeat' split) <;> omega
        refine keyP_no h (v := -12) ?_ ?_
        · unfold FX11_noNumber
          rw [if_neg R.1, if_pos R.2, if_neg c2]
        · show FX12_noNumber m s i = _
          unfold FX12_noNumber
          have a := k.2
          rw [if_pos c, if_pos ne, if_neg (by split at a <;> omega)]
  · have R : FX11_refusalOf m s i = -1 := by unfold FX11_refusalOf; rw [if_neg c]
    refine keyP_no h (v := -1) ?_ ?_
    · unfold FX11_noNumber
      rw [R, if_pos rfl]
    · show FX12_noNumber m s i = _
      unfold FX12_noNumber
      rw [if_neg c]
theorem ag_noNumber {G : QW} {m : AM} {s i : Int} (h : Inv m) (hs1 : -2147483648 ≤ s) (hs2 : s < 2147483648) (hi1 : -2147483648 ≤ i) (hi2 : i < 2147483648) : AG G mX11_noNumber mX12_noNumber 2 3 0 0 [vI s, vI i] m :=
  AG.key (g := fun N => FX12_noNumber N s i) (cg_noNumber h.s h.i hs1 hs2 hi1 hi2 (fun q => (h.l4 q).2)) (fun a b => ct_X12_noNumber a b hs1 hs2 hi1 hi2) (key_noNumber h s i)

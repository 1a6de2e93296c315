/-! bits, wire, watch, twin: both sides write the same of a box -/
theorem IM.h62 {m N : AM} (h : IM m) (e : ∀ c j : Nat, c < 145 → c ≠ 62 → mi N c j = mi m c j) : IM N := h.same (fun q hq => e _ _ ((by decide : ∀ q ∈ imS, q.1 < 145) q hq) ((by decide : ∀ q ∈ imS, q.1 ≠ 62) q hq)) (fun q hq j => e _ _ ((by decide : ∀ q ∈ imA, q.1 < 145) q hq) ((by decide : ∀ q ∈ imA, q.1 ≠ 62) q hq)) (fun j => e _ _ (by decide) (by decide)) (e _ _ (by decide) (by decide)) (fun j hj => e _ _ (by omega) (by omega)) (e _ _ (by decide) (by decide))
/-- a program's cells are no box's -/
theorem K0.pn {m : AM} (h : K0 m) {b c : Int} (hb : 0 ≤ b ∧ b < mi m 0 16) (hc : 0 ≤ c ∧ c < mi m 0 16) {p : Nat} (h1 : pg m b ≤ p) (h2 : p ≤ pg m b + 5) : ¬ (bx m c ≤ p ∧ p < bx m c + 3) := by
  have C := (h.1 c hc.1 hc.2).1
  rcases (h.1 b hb.1 hb.2).2.2 with e | ⟨d, d0, d1, e⟩
  · omega
  · by_cases z : d = c
    · rw [z] at e; omega
    · have := (h.2.1 d c d0 d1 hc.1 hc.2 z).1
      omega
theorem Inv.w89 {m : AM} (h : Inv m) : ∀ j : Nat, mi m 89 j ≥ 0 → mi m 89 j % 10 ≤ 3 := h.1.1.1.1.1.1.2.2.2.2.2.2.2.2
/-- one box's cells, when what both sides say of it is still the same -/
theorem AgB.w1 {m N : AM} {b : Int} (h : AgB m (wN m) b) (hb : 0 ≤ b) (e2 : N.2.2 = m.2.2) (e0 : mi N (bx m b) 0 = mi m (bx m b) 0 ∧ mi N (bx m b) 1 = mi m (bx m b) 1)
    (ep : ∀ c j : Nat, pg m b ≤ c → c ≤ pg m b + 5 → ¬ (c = pg m b ∧ j = 8) → mi N c j = mi m c j)
    (kr : ∀ o ∈ ([87, 91, 92, 94, 95, 96, 97, 98, 99] : List Nat), ∀ j : Nat, mi N o j = mi m o j)
    (g1 : ∀ j : Nat, -1 ≤ mi N (bx m b + 2) j ∧ mi N (bx m b + 2) j ≤ 53 ∧ mi N (bx m b + 2) j % 10 ≤ 3 ∨ mi N (bx m b + 2) j = -1)
    (g2 : ∀ i : Int, 0 ≤ i → i ≤ 3 → mi N (bx m b + 2) i.toNat = mi N 89 ((4 * b) + i).toNat)
    (g3 : ∀ s : Nat, s < 8 → mi N (bx m b + 1) s = mi N 88 ((8 * b) + s).toNat)
    (g4 : ∀ l : Int, 0 ≤ l → l < mi m 91 b.toNat → z_iand (z_ishr (mi N (pg m b) 8) l) 1 = if mi N 93 ((12 * b) + l).toNat ≠ 0 then 1 else 0) : AgB N (wN N) b := by
  obtain ⟨⟨a1, a2, a3, a4⟩, ⟨b1, b2⟩, x, d, e', f, g, i⟩ := h
  have kf : ∀ o ∈ ([87, 91, 92, 94, 95, 96, 97, 98, 99] : List Nat), mi N o = mi m o := fun o ho => funext (kr o ho)
  unfold AgB
  rw [bx2 e2, pg2 e2, mr2 e2]
  refine ⟨⟨a1, obz e2 a2, a3, obz e2 a4⟩, ⟨b1, b2⟩, ⟨e0.1.trans x.1, e0.2.trans (x.2.trans ?_)⟩, g1, fun j h1 h2 => g2 j h1 h2, fun r h1 h2 => ?_, ?_, fun l h1 h2 => ?_⟩
  · show mi m 87 _ = mi N 87 _
    rw [kr 87 (by decide)]
  · have q := g3 r.toNat (by omega)
    rw [show ((8 * b) + (r.toNat : Int)).toNat = ((8 * b) + r).toNat by omega] at q
    show FX1_greatestFor N (bx m b) r = FX12_mostOf N (mi N 88 ((8 * b) + r).toNat)
    unfold FX1_greatestFor FX12_mostOf
    rw [if_neg (by omega), q]
  · rw [ep _ _ (Nat.le_refl _) (by omega) (by omega)]
    exact g.trans (show mi m 91 _ = mi N 91 _ by rw [kr 91 (by decide)])
  · have h3 : l < mi m 91 b.toNat := by
      have h4 : l < mi N 91 b.toNat := h2
      rw [kr 91 (by decide)] at h4
      exact h4
    have q := i l h1 h3
    unfold AgL at q ⊢
    rw [ep (pg m b) 7 (by omega) (by omega) (by omega), ep (pg m b + 2) _ (by omega) (by omega) (by omega), ep (pg m b + 3) _ (by omega) (by omega) (by omega), ep (pg m b + 4) _ (by omega) (by omega) (by omega), ep (pg m b + 5) _ (by omega) (by omega) (by omega)]
    have t3 : (wN N).at3 b l = (wN m).at3 b l := by
      show (mi N 95 _, mi N 96 _, mi N 97 _) = (mi m 95 _, mi m 96 _, mi m 97 _)
      rw [kr 95 (by decide), kr 96 (by decide), kr 97 (by decide)]
    rw [t3]
    refine ⟨q.1.trans ?_, (g4 l h1 h3).trans ?_, q.2.2.1, q.2.2.2.1.trans ?_, fun j h4 h5 => ?_⟩
    · show mi m 92 _ = mi N 92 _
      rw [kr 92 (by decide)]
    · show _ = if 0 ≤ b then (if mi N 93 ((12 * b) + l).toNat ≠ 0 then 1 else 0) else 0
      rw [if_pos hb]
    · show mi m 94 _ = mi N 94 _
      rw [kr 94 (by decide)]
    · rw [ep (pg m b + 1) _ (by omega) (by omega) (by omega)]
      refine (q.2.2.2.2 j h4 h5).trans ?_
      show wdC (cdX m _) = wdC (cdX N _)
      unfold cdX
      rw [kr 98 (by decide), kr 99 (by decide)]
/-- what the bits of watches say -/
theorem AgB.wb {m : AM} {b : Int} (h : AgB m (wN m) b) (hb : 0 ≤ b) {l : Int} (h0 : 0 ≤ l) (h1 : l < mi m 91 b.toNat) : z_iand (z_ishr (mi m (pg m b) 8) l) 1 = if mi m 93 ((12 * b) + l).toNat ≠ 0 then 1 else 0 :=
  (h.2.2.2.2.2.2.2 l h0 h1).2.1.trans (if_pos hb)
theorem key_bits {m : AM} (h : Inv m) (b s v : Int) : KeyP (FX11_bits m b s v) (fun N => FX12_bits N b s v) := by
  have e16 : mi m 0 16 = mi m 86 1 := h.1.2.1.1
  by_cases g : (0 ≤ b ∧ b < mi m 0 16) ∧ (0 ≤ s ∧ s ≤ 7) ∧ 2 ≤ v ∧ v ≤ 20
  · have hb := g.1
    have h16 := h.i.s 0 16 0 6 (by decide)
    have K := h.1.2.1.2 b hb.1 (by rw [← e16]; exact hb.2)
    have k0 := h.k0
    have B := (k0.1 b hb.1 hb.2).1
    have pr := K.1.2.1.2
    have pb := k0.pb hb hb
    have km := h.kz.2 b hb.1 hb.2
    have f1 : FX11_bits m b s v = (mi m (bx m b + 1) s.toNat, si m (bx m b + 1) s.toNat v) := by
      unfold FX11_bits
      rw [if_pos g.1, if_neg (by omega), if_neg (by omega), if_neg (by omega), if_pos (by omega)]
    have f2 : ∀ N, mi N 86 1 = mi m 86 1 → FX12_bits N b s v = (mi N 88 ((8 * b) + s).toNat, si N 88 ((8 * b) + s).toNat v) := fun N eN => by
      unfold FX12_bits
      rw [eN, if_pos (by omega), if_pos (by omega), if_pos (by omega)]
    obtain ⟨k, hk⟩ : ∃ k : Nat, ((8 * b) + s).toNat = k := ⟨_, rfl⟩
    obtain ⟨t, ht⟩ : ∃ t : Nat, s.toNat = t := ⟨_, rfl⟩
    have hkt : (k : Int) = 8 * b + t := by omega
    rw [hk] at f2
    rw [ht] at f1
    rw [f1]
    unfold KeyP
    generalize hA : si m (bx m b + 1) t v = A
    have wA : ∀ p j, ¬ (p = bx m b + 1 ∧ j = t) → mi A p j = mi m p j := fun p j q => by rw [← hA, mi_si_ne _ _ q]
    have vA : mi A (bx m b + 1) t = v := by rw [← hA, mi_si_same _ _ _ (by omega) (by omega)]
    have zA : A.2 = m.2 := by rw [← hA]; rfl
    clear hA
    have iA : IM A := h.i.hi (fun p j hp => wA p j (by omega))
    show St A ∧ IM A ∧ mi m (bx m b + 1) t = (FX12_bits A b s v).1 ∧ Inv (FX12_bits A b s v).2
    rw [f2 A (wA _ _ (by omega))]
    refine ⟨shc_st h.s (congrArg (fun q => q.2) zA), iA, ?_, ?_⟩
    · show _ = mi A 88 k
      rw [wA _ _ (by omega), km t (by omega), show ((8 * b) + (t : Int)).toNat = k by omega]
    · show Inv (si A 88 k v)
      have iN : IM (si A 88 k v) := iA.cell 0 20 (fun q hq e _ => by revert q; decide) (by decide) (by omega) (by omega) (by decide) (by decide) (by intro j hj; omega) (by decide)
      generalize hN : si A 88 k v = N at iN
      have wN0 : ∀ p j, ¬ (p = 88 ∧ j = k) → mi N p j = mi A p j := fun p j q => by rw [← hN, mi_si_ne _ _ q]
      have vN : mi N 88 k = v := by rw [← hN, mi_si_same _ _ _ (by omega) (by omega)]
      have zN : N.2 = m.2 := by rw [← hN]; exact zA
      clear hN
      have P4 : N.2.2 = m.2.2 := congrArg (fun q => q.2) zN
      have eml : ∀ c j, ml N c j = ml m c j := fun c j => congrArg (fun q : (Nat → Nat → Int) × _ => (zl (q.1 c j)).toInt) zN
      have ew : ∀ p j, ¬ (p = bx m b + 1 ∧ j = t) → ¬ (p = 88 ∧ j = k) → mi N p j = mi m p j := fun p j q1 q2 => by rw [wN0 _ _ q2, wA _ _ q1]
      have km' : ∀ r : Nat, r < 8 → mi N (bx m b + 1) r = mi N 88 ((8 * b) + r).toNat := fun r hr => by
        by_cases y : r = t
        · rw [y, show ((8 * b) + (t : Int)).toNat = k by omega, vN, wN0 _ _ (by omega), vA]
        · rw [ew _ _ (by omega) (by omega), ew _ _ (by omega) (by omega)]; exact km r hr
      refine h.bx1 hb P4 (fun c j p1 p2 p3 => ew _ _ (by omega) (by omega)) eml (fun j hj => ew _ _ (by omega) (by omega)) (fun j _ => ew _ _ (by omega) (by omega)) (fun j _ => ew _ _ (by omega) (by omega)) (fun j _ => ew _ _ (by omega) (by omega)) iN (fun j => by rw [ew _ _ (by omega) (by omega)]; exact h.w89 j) (fun j => ?_) ?_ ?_ km'
      · by_cases y : j = k
        · rw [y, vN]; exact Or.inr g.2.2
        · exact Or.inl (ew _ _ (by omega) (by omega))
      · refine K.1.w1 hb.1 P4 ⟨ew _ _ (by omega) (by omega), ew _ _ (by omega) (by omega)⟩ (fun c j p1 p2 _ => ?_) (fun o ho j => ?_) (fun j => ?_) (fun i i0 i1 => ?_) km' (fun l l0 l1 => ?_)
        · have := k0.pn hb hb p1 p2
          exact ew _ _ (by omega) (by omega)
        · have := (by decide : ∀ o ∈ ([87, 91, 92, 94, 95, 96, 97, 98, 99] : List Nat), o < 145 ∧ o ≠ 88) o ho
          exact ew _ _ (by omega) (by omega)
        · rw [ew _ _ (by omega) (by omega)]
          exact K.1.2.2.2.1 j
        · rw [ew _ _ (by omega) (by omega), ew _ _ (by omega) (by omega)]
          exact K.1.2.2.2.2.1 i i0 i1
        · rw [ew _ _ (by omega) (by omega), ew _ _ (by omega) (by omega)]
          exact K.1.wb hb.1 l0 l1
      · rw [ew _ _ (by omega) (by omega), ew _ _ (by omega) (by omega)]
        exact K.2
  · refine keyP_no h (v := -1) ?_ ?_
    · unfold FX11_bits
      (repeat' split) <;> first | rfl | (exfalso; omega)
    · show FX12_bits m b s v = _
      unfold FX12_bits
      (repeat' split) <;> first | rfl | (exfalso; omega)
theorem ag_bits {G : QW} {m : AM} {b s v : Int} (h : Inv m) (hb1 : -2147483648 ≤ b) (hb2 : b < 2147483648) (hs1 : -2147483648 ≤ s) (hs2 : s < 2147483648) (hv1 : -2147483648 ≤ v) (hv2 : v < 2147483648) : AG G mX11_bits mX12_bits 1 2 0 0 [vI b, vI s, vI v] m :=
  AG.key (g := fun N => FX12_bits N b s v) (ct_X11_bits h.s h.i hb1 hb2 hs1 hs2 hv1 hv2 h.1.hx) (fun a c => ct_X12_bits a c hb1 hb2 hs1 hs2 hv1 hv2) (key_bits h b s v)
theorem key_wire {m : AM} (h : Inv m) (b i f p : Int) : KeyP (FX11_wire m b i f p) (fun N => FX12_wire N b i f p) := by
  have e16 : mi m 0 16 = mi m 86 1 := h.1.2.1.1
  have h16 := h.i.s 0 16 0 6 (by decide)
  by_cases g : (0 ≤ b ∧ b < mi m 0 16) ∧ (0 ≤ i ∧ i ≤ 3) ∧ (f = -1 ∨ ((0 ≤ f ∧ f < mi m 0 16) ∧ 0 ≤ p ∧ p ≤ 3))
  · have hb := g.1
    obtain ⟨v, hv, hvr⟩ : ∃ v : Int, ((f = -1 ∧ v = -1) ∨ (((0 ≤ f ∧ f < mi m 0 16) ∧ 0 ≤ p ∧ p ≤ 3) ∧ v = (10 * f) + p)) ∧ (v = -1 ∨ (0 ≤ v ∧ v ≤ 53 ∧ v % 10 ≤ 3)) := by
      rcases g.2.2 with q | q
      · exact ⟨-1, Or.inl ⟨q, rfl⟩, Or.inl rfl⟩
      · exact ⟨(10 * f) + p, Or.inr ⟨q, rfl⟩, Or.inr ⟨by omega, by omega, by omega⟩⟩
    have K := h.1.2.1.2 b hb.1 (by rw [← e16]; exact hb.2)
    have k0 := h.k0
    have B := (k0.1 b hb.1 hb.2).1
    have pr := K.1.2.1.2
    have pb := k0.pb hb hb
    have km := h.kz.2 b hb.1 hb.2
    have f1 : FX11_wire m b i f p = (mi m (bx m b + 2) i.toNat, si m (bx m b + 2) i.toNat v) := by
      unfold FX11_wire
      rcases hv with ⟨q, rfl⟩ | ⟨q, rfl⟩
      · (repeat' split) <;> first | rfl | (exfalso; omega)
      · (repeat' split) <;> first | rfl | (exfalso; omega)
    have f2 : ∀ N, mi N 86 1 = mi m 86 1 → FX12_wire N b i f p = (mi N 89 ((4 * b) + i).toNat, si N 89 ((4 * b) + i).toNat v) := fun N eN => by
      unfold FX12_wire
      rw [eN]
      rcases hv with ⟨q, rfl⟩ | ⟨q, rfl⟩
      · (repeat' split) <;> first | rfl | (exfalso; omega)
      · (repeat' split) <;> first | rfl | (exfalso; omega)
    obtain ⟨k, hk⟩ : ∃ k : Nat, ((4 * b) + i).toNat = k := ⟨_, rfl⟩
    obtain ⟨t, ht⟩ : ∃ t : Nat, i.toNat = t := ⟨_, rfl⟩
    have hkt : (k : Int) = 4 * b + t := by omega
    rw [hk] at f2
    rw [ht] at f1
    clear hv
    rw [f1]
    unfold KeyP
    generalize hA : si m (bx m b + 2) t v = A
    have wA : ∀ p j, ¬ (p = bx m b + 2 ∧ j = t) → mi A p j = mi m p j := fun p j q => by rw [← hA, mi_si_ne _ _ q]
    have vA : mi A (bx m b + 2) t = v := by rw [← hA, mi_si_same _ _ _ (by omega) (by omega)]
    have zA : A.2 = m.2 := by rw [← hA]; rfl
    clear hA
    have iA : IM A := h.i.hi (fun p j hp => wA p j (by omega))
    show St A ∧ IM A ∧ mi m (bx m b + 2) t = (FX12_wire A b i f p).1 ∧ Inv (FX12_wire A b i f p).2
    rw [f2 A (wA _ _ (by omega))]
    have old : mi m (bx m b + 2) t = mi m 89 k := by
      have q := K.1.2.2.2.2.1 i g.2.1.1 g.2.1.2
      rw [ht] at q
      exact q.trans (congrArg (mi m 89) hk)
    refine ⟨shc_st h.s (congrArg (fun q => q.2) zA), iA, ?_, ?_⟩
    · show _ = mi A 89 k
      rw [wA _ _ (by omega), old]
    · show Inv (si A 89 k v)
      have iN : IM (si A 89 k v) := iA.cell (-1) 53 (fun q hq e _ => by revert q; decide) (by decide) (by omega) (by omega) (by decide) (by decide) (by intro j hj; omega) (by decide)
      generalize hN : si A 89 k v = N at iN
      have wN0 : ∀ p j, ¬ (p = 89 ∧ j = k) → mi N p j = mi A p j := fun p j q => by rw [← hN, mi_si_ne _ _ q]
      have vN : mi N 89 k = v := by rw [← hN, mi_si_same _ _ _ (by omega) (by omega)]
      have zN : N.2 = m.2 := by rw [← hN]; exact zA
      clear hN
      have P4 : N.2.2 = m.2.2 := congrArg (fun q => q.2) zN
      have eml : ∀ c j, ml N c j = ml m c j := fun c j => congrArg (fun q : (Nat → Nat → Int) × _ => (zl (q.1 c j)).toInt) zN
      have ew : ∀ p j, ¬ (p = bx m b + 2 ∧ j = t) → ¬ (p = 89 ∧ j = k) → mi N p j = mi m p j := fun p j q1 q2 => by rw [wN0 _ _ q2, wA _ _ q1]
      have vb : mi N (bx m b + 2) t = v := by rw [wN0 _ _ (by omega), vA]
      have km' : ∀ r : Nat, r < 8 → mi N (bx m b + 1) r = mi N 88 ((8 * b) + r).toNat := fun r hr => by
        rw [ew _ _ (by omega) (by omega), ew _ _ (by omega) (by omega)]; exact km r hr
      refine h.bx1 hb P4 (fun c j p1 p2 p3 => ew _ _ (by omega) (by omega)) eml (fun j hj => ew _ _ (by omega) (by omega)) (fun j _ => ew _ _ (by omega) (by omega)) (fun j _ => ew _ _ (by omega) (by omega)) (fun j _ => ew _ _ (by omega) (by omega)) iN (fun j => ?_) (fun j => Or.inl (ew _ _ (by omega) (by omega))) ?_ ?_ km'
      · by_cases y : j = k
        · rw [y, vN]; omega
        · rw [ew _ _ (by omega) (by omega)]; exact h.w89 j
      · refine K.1.w1 hb.1 P4 ⟨ew _ _ (by omega) (by omega), ew _ _ (by omega) (by omega)⟩ (fun c j p1 p2 _ => ?_) (fun o ho j => ?_) (fun j => ?_) (fun x i0 i1 => ?_) km' (fun l l0 l1 => ?_)
        · have := k0.pn hb hb p1 p2
          exact ew _ _ (by omega) (by omega)
        · have := (by decide : ∀ o ∈ ([87, 91, 92, 94, 95, 96, 97, 98, 99] : List Nat), o < 145 ∧ o ≠ 89) o ho
          exact ew _ _ (by omega) (by omega)
        · by_cases y : j = t
          · rw [y, vb]; omega
          · rw [ew _ _ (by omega) (by omega)]
            exact K.1.2.2.2.1 j
        · by_cases y : x.toNat = t
          · rw [y, vb, show ((4 * b) + x).toNat = k by omega, vN]
          · rw [ew _ _ (by omega) (by omega), ew _ _ (by omega) (by omega)]
            exact K.1.2.2.2.2.1 x i0 i1
        · rw [ew _ _ (by omega) (by omega), ew _ _ (by omega) (by omega)]
          exact K.1.wb hb.1 l0 l1
      · rw [ew _ _ (by omega) (by omega), ew _ _ (by omega) (by omega)]
        exact K.2
  · refine keyP_no h (v := -2000000000) ?_ ?_
    · unfold FX11_wire
      (repeat' split) <;> first | rfl | (exfalso; omega)
    · show FX12_wire m b i f p = _
      unfold FX12_wire
      (repeat' split) <;> first | rfl | (exfalso; omega)
theorem ag_wire {G : QW} {m : AM} {b i f p : Int} (h : Inv m) (hb1 : -2147483648 ≤ b) (hb2 : b < 2147483648) (hi1 : -2147483648 ≤ i) (hi2 : i < 2147483648) (hf1 : -2147483648 ≤ f) (hf2 : f < 2147483648) (hp1 : -2147483648 ≤ p) (hp2 : p < 2147483648) : AG G mX11_wire mX12_wire 1 2 0 0 [vI b, vI i, vI f, vI p] m :=
  AG.key (g := fun N => FX12_wire N b i f p) (ct_X11_wire h.s h.i hb1 hb2 hi1 hi2 hf1 hf2 hp1 hp2 h.1.hx) (fun a c => ct_X12_wire a c hb1 hb2 hi1 hi2 hf1 hf2 hp1 hp2) (key_wire h b i f p)
theorem key_twin {m : AM} (h : Inv m) (b v : Int) : KeyP (FX11_twin m b v) (fun N => FX12_twin N b v) := by
  have e16 : mi m 0 16 = mi m 86 1 := h.1.2.1.1
  have h16 := h.i.s 0 16 0 6 (by decide)
  by_cases hb : 0 ≤ b ∧ b < mi m 0 16
  · have K := h.1.2.1.2 b hb.1 (by rw [← e16]; exact hb.2)
    have kd : mi m (bx m b) 1 = mi m 87 b.toNat := K.1.2.2.1.2
    by_cases g : mi m 87 b.toNat = 1 ∧ (0 ≤ v ∧ v < mi m 0 16) ∧ b ≠ v
    · have k0 := h.k0
      have B := (k0.1 b hb.1 hb.2).1
      have pr := K.1.2.1.2
      have pb := k0.pb hb hb
      have km := h.kz.2 b hb.1 hb.2
      have f1 : FX11_twin m b v = (1, si m (bx m b) 5 v) := by
        unfold FX11_twin
        rw [if_pos ⟨hb, kd.trans g.1⟩, if_pos g.2.1, if_pos g.2.2]
      have f2 : ∀ N, mi N 86 1 = mi m 86 1 → mi N 87 b.toNat = mi m 87 b.toNat → FX12_twin N b v = (1, si N 90 b.toNat v) := fun N eN eK => by
        unfold FX12_twin
        rw [eN, eK, if_pos (by omega), if_neg (by omega), if_pos (by omega), if_pos g.2.2]
      obtain ⟨k, hk⟩ : ∃ k : Nat, b.toNat = k := ⟨_, rfl⟩
      rw [hk] at f2
      rw [f1]
      unfold KeyP
      generalize hA : si m (bx m b) 5 v = A
      have wA : ∀ p j, ¬ (p = bx m b ∧ j = 5) → mi A p j = mi m p j := fun p j q => by rw [← hA, mi_si_ne _ _ q]
      have vA : mi A (bx m b) 5 = v := by rw [← hA, mi_si_same _ _ _ (by omega) (by omega)]
      have zA : A.2 = m.2 := by rw [← hA]; rfl
      clear hA
      have iA : IM A := h.i.hi (fun p j hp => wA p j (by omega))
      show St A ∧ IM A ∧ (1 : Int) = (FX12_twin A b v).1 ∧ Inv (FX12_twin A b v).2
      rw [f2 A (wA _ _ (by omega)) (wA _ _ (by omega))]
      refine ⟨shc_st h.s (congrArg (fun q => q.2) zA), iA, rfl, ?_⟩
      show Inv (si A 90 k v)
      have iN : IM (si A 90 k v) := iA.cell (-1) 5 (fun q hq e _ => by revert q; decide) (by decide) (by omega) (by omega) (by decide) (by decide) (by intro j hj; omega) (by decide)
      generalize hN : si A 90 k v = N at iN
      have wN0 : ∀ p j, ¬ (p = 90 ∧ j = k) → mi N p j = mi A p j := fun p j q => by rw [← hN, mi_si_ne _ _ q]
      have vN : mi N 90 k = v := by rw [← hN, mi_si_same _ _ _ (by omega) (by omega)]
      have zN : N.2 = m.2 := by rw [← hN]; exact zA
      clear hN
      have P4 : N.2.2 = m.2.2 := congrArg (fun q => q.2) zN
      have eml : ∀ c j, ml N c j = ml m c j := fun c j => congrArg (fun q : (Nat → Nat → Int) × _ => (zl (q.1 c j)).toInt) zN
      have ew : ∀ p j, ¬ (p = bx m b ∧ j = 5) → ¬ (p = 90 ∧ j = k) → mi N p j = mi m p j := fun p j q1 q2 => by rw [wN0 _ _ q2, wA _ _ q1]
      have km' : ∀ r : Nat, r < 8 → mi N (bx m b + 1) r = mi N 88 ((8 * b) + r).toNat := fun r hr => by
        rw [ew _ _ (by omega) (by omega), ew _ _ (by omega) (by omega)]; exact km r hr
      refine h.bx1 hb P4 (fun c j p1 p2 p3 => ew _ _ (by omega) (by omega)) eml (fun j hj => ew _ _ (by omega) (by omega)) (fun j _ => ew _ _ (by omega) (by omega)) (fun j _ => ew _ _ (by omega) (by omega)) (fun j _ => ew _ _ (by omega) (by omega)) iN (fun j => by rw [ew _ _ (by omega) (by omega)]; exact h.w89 j) (fun j => Or.inl (ew _ _ (by omega) (by omega))) ?_ ?_ km'
      · refine K.1.w1 hb.1 P4 ⟨ew _ _ (by omega) (by omega), ew _ _ (by omega) (by omega)⟩ (fun c j p1 p2 _ => ?_) (fun o ho j => ?_) (fun j => ?_) (fun x i0 i1 => ?_) km' (fun l l0 l1 => ?_)
        · have := k0.pn hb hb p1 p2
          exact ew _ _ (by omega) (by omega)
        · have := (by decide : ∀ o ∈ ([87, 91, 92, 94, 95, 96, 97, 98, 99] : List Nat), o < 145 ∧ o ≠ 90) o ho
          exact ew _ _ (by omega) (by omega)
        · rw [ew _ _ (by omega) (by omega)]
          exact K.1.2.2.2.1 j
        · rw [ew _ _ (by omega) (by omega), ew _ _ (by omega) (by omega)]
          exact K.1.2.2.2.2.1 x i0 i1
        · rw [ew _ _ (by omega) (by omega), ew _ _ (by omega) (by omega)]
          exact K.1.wb hb.1 l0 l1
      · rw [hk, vN, wN0 _ _ (by omega), vA]
    · refine keyP_no h (v := -1) ?_ ?_
      · unfold FX11_twin
        rw [kd]
        (repeat' split) <;> first | rfl | (exfalso; omega)
      · show FX12_twin m b v = _
        unfold FX12_twin
        (repeat' split) <;> first | rfl | (exfalso; omega)
  · refine keyP_no h (v := -1) ?_ ?_
    · unfold FX11_twin
      rw [if_neg (fun q => hb q.1)]
    · show FX12_twin m b v = _
      unfold FX12_twin
      rw [if_neg (by omega)]
theorem ag_twin {G : QW} {m : AM} {t b : Int} (h : Inv m) (ht1 : -2147483648 ≤ t) (ht2 : t < 2147483648) (hb1 : -2147483648 ≤ b) (hb2 : b < 2147483648) : AG G mX11_twin mX12_twin 2 2 0 0 [vI t, vI b] m :=
  AG.key (g := fun N => FX12_twin N t b) (ct_X11_twin h.s h.i ht1 ht2 hb1 hb2 h.1.hx) (fun a c => ct_X12_twin a c ht1 ht2 hb1 hb2) (key_twin h t b)

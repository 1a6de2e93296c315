/-! boxes: what both sides write of one -/
theorem AgB.cg {m : AM} {W W' : ZW} {b : Int} (kd : W'.kd b = W.kd b) (wi : ∀ i, 0 ≤ i → i ≤ 3 → W'.wi b i = W.wi b i) (nl : W'.nl b = W.nl b) (L : ∀ l, 0 ≤ l → l < W.nl b → W'.ca b l = W.ca b l ∧ W'.wa b l = W.wa b l ∧ W'.at3 b l = W.at3 b l ∧ W'.tg b l = W.tg b l) (cd : W'.cd b = W.cd b) (mo : ∀ r, 0 ≤ r → r ≤ 7 → W'.mo b r = W.mo b r) (h : AgB m W b) : AgB m W' b := by
  obtain ⟨a, b2, c, d, e, f, g, i⟩ := h
  refine ⟨a, b2, by rw [kd]; exact c, d, fun j h0 h1 => by rw [wi j h0 h1]; exact e j h0 h1, fun r h0 h1 => by rw [mo r h0 h1]; exact f r h0 h1, by rw [nl]; exact g, fun l h0 h1 => ?_⟩
  rw [nl] at h1
  have k := L l h0 h1
  have q := i l h0 h1
  unfold AgL at q ⊢
  rw [k.1, k.2.1, k.2.2.1, k.2.2.2, cd]
  exact q
theorem RI.bx {m N : AM} (h : RI m) (hS : St N) (hI : IM N) (h1 : ∀ o ∈ ([106, 107, 108, 109, 110, 111, 112, 114, 91, 94, 95, 96, 97, 98, 99] : List Nat), ∀ j : Nat, mi N o j = mi m o j) (h2 : ∀ k ∈ riK, mi N 86 k = mi m 86 k) (h89 : ∀ j : Nat, mi N 89 j ≥ 0 → mi N 89 j % 10 ≤ 3) (h88 : ∀ j : Nat, mi N 88 j = mi m 88 j ∨ (2 ≤ mi N 88 j ∧ mi N 88 j ≤ 20)) : RI N := by
  obtain ⟨⟨⟨a, b', c, d, e, f, g, i, w⟩, r, t⟩, ⟨u, v, x⟩, y, z⟩ := h
  have ecd : cdX N = cdX m := by
    unfold cdX
    funext k
    rw [h1 98 (by decide), h1 99 (by decide)]
  refine ⟨⟨⟨hS, hI, fun j => ?_, fun j => ?_, fun j => ?_, fun j => ?_, ?_, ?_, h89⟩, fun j => ?_, fun j => ?_⟩, ⟨fun j => ?_, fun j => ?_, fun k k1 k2 => ?_⟩, ?_, fun b j h0 hb hj hj2 => ?_⟩
  · rw [h1 110 (by decide)]; exact c j
  · rw [h1 106 (by decide)]; exact d j
  · rw [h1 109 (by decide)]; exact e j
  · rw [h1 114 (by decide)]; exact f j
  · rw [h2 39 (by decide)]; exact g
  · rw [h2 40 (by decide)]; exact i
  · rw [h1 107 (by decide)]; exact r j
  · rw [h1 108 (by decide)]; exact t j
  · rw [h1 111 (by decide)]; exact u j
  · rw [h1 112 (by decide)]; exact v j
  · have hk : k = 35 ∨ k = 36 ∨ k = 37 ∨ k = 38 := by omega
    rcases hk with rfl | rfl | rfl | rfl
    · rw [h2 35 (by decide)]; exact x 35 k1 k2
    · rw [h2 36 (by decide)]; exact x 36 k1 k2
    · rw [h2 37 (by decide)]; exact x 37 k1 k2
    · rw [h2 38 (by decide)]; exact x 38 k1 k2
  · rw [h2 45 (by decide)]; exact y
  · rw [h2 1 (by decide)] at hb
    rw [h1 91 (by decide)] at hj2
    have l := z b j h0 hb hj hj2
    unfold LK at l ⊢
    rw [ecd, h1 94 (by decide), h1 95 (by decide), h1 96 (by decide), h1 97 (by decide)]
    refine ⟨l.1, l.2.1, l.2.2.1, fun q => ?_⟩
    have k := l.2.2.2 q
    refine ⟨k.1, ?_⟩
    rcases h88 ((8 * b) + mi m 94 ((12 * b) + j).toNat).toNat with w | w
    · rw [w]; exact k.2
    · exact w
/-- one box is written, on both sides -/
theorem Inv.bx1 {m N : AM} {b : Int} (h : Inv m) (hb : 0 ≤ b ∧ b < mi m 0 16) (e2 : N.2.2 = m.2.2) (w : ∀ c j : Nat, ¬ (bx m b ≤ c ∧ c < bx m b + 3) → ¬ (c = pg m b ∧ j = 8) → ¬ (c = 88 ∨ c = 89 ∨ c = 90 ∨ c = 93) → mi N c j = mi m c j) (wl : ∀ c j, ml N c j = ml m c j) (r88 : ∀ j : Nat, ¬ (8 * b ≤ (j : Int) ∧ (j : Int) < 8 * b + 8) → mi N 88 j = mi m 88 j) (r89 : ∀ j : Nat, ¬ (4 * b ≤ (j : Int) ∧ (j : Int) < 4 * b + 4) → mi N 89 j = mi m 89 j) (r90 : ∀ j : Nat, (j : Int) ≠ b → mi N 90 j = mi m 90 j) (r93 : ∀ j : Nat, ¬ (12 * b ≤ (j : Int) ∧ (j : Int) < 12 * b + 12) → mi N 93 j = mi m 93 j) (iN : IM N) (h89 : ∀ j : Nat, mi N 89 j ≥ 0 → mi N 89 j % 10 ≤ 3) (h88 : ∀ j : Nat, mi N 88 j = mi m 88 j ∨ (2 ≤ mi N 88 j ∧ mi N 88 j ≤ 20)) (ag : AgB N (wN N) b) (t90 : mi N (bx m b) 5 = mi N 90 b.toNat) (km : ∀ s : Nat, s < 8 → mi N (bx m b + 1) s = mi N 88 ((8 * b) + s).toNat) : Inv N := by
  have k0 := h.k0
  have B := k0.1 b hb.1 hb.2
  have pb := k0.pb hb hb
  have pr : pg m b = 62 ∨ 145 ≤ pg m b := (h.1.2.1.2 b hb.1 (by rw [← h.1.2.1.1]; exact hb.2)).1.2.1.2
  have v : ∀ c j : Nat, c < 145 → c ≠ 62 → ¬ (c = 88 ∨ c = 89 ∨ c = 90 ∨ c = 93) → mi N c j = mi m c j := fun c j a b d => w c j (by omega) (by omega) d
  have e16 : mi N 0 16 = mi m 0 16 := v _ _ (by decide) (by decide) (by decide)
  have e17 : mi N 0 17 = mi m 0 17 := v _ _ (by decide) (by decide) (by decide)
  have e1 : mi N 86 1 = mi m 86 1 := v _ _ (by decide) (by decide) (by decide)
  have e11 : mi m 0 16 = mi m 86 1 := h.1.2.1.1
  have h16 := h.i.s 0 16 0 6 (by decide)
  have hS : St N := shc_st h.s e2
  have kr : ∀ o ∈ ([87, 91, 92, 94, 95, 96, 97, 98, 99] : List Nat), ∀ j : Nat, mi N o j = mi m o j := fun o ho j => by
    have z := (by decide : ∀ o ∈ ([87, 91, 92, 94, 95, 96, 97, 98, 99] : List Nat), o < 145 ∧ o ≠ 62 ∧ ¬ (o = 88 ∨ o = 89 ∨ o = 90 ∨ o = 93)) o ho
    exact v o j z.1 z.2.1 z.2.2
  have kf : ∀ o ∈ ([87, 91, 92, 94, 95, 96, 97, 98, 99] : List Nat), mi N o = mi m o := fun o ho => funext (kr o ho)
  -- another box's cells stand
  have oth : ∀ c : Int, 0 ≤ c → c < mi m 0 16 → c ≠ b → ∀ p j : Nat, (bx m c ≤ p ∧ p < bx m c + 3) ∨ (pg m c ≤ p ∧ p ≤ pg m c + 5) → mi N p j = mi m p j := fun c c0 c1 cb p j hp => by
    have s := k0.2.1 c b c0 c1 hb.1 hb.2 cb
    have C := k0.1 c c0 c1
    refine w p j ?_ ?_ ?_
    · rcases hp with q | q
      · omega
      · rcases C.2.2 with z | ⟨d, d0, d1, z⟩
        · omega
        · by_cases db : d = b
          · rw [db] at z; omega
          · have s2 := (k0.2.1 d b d0 d1 hb.1 hb.2 db).1
            omega
    · rintro ⟨z1, z2⟩
      rcases hp with q | q
      · have g := k0.pb hb ⟨c0, c1⟩
        rcases B.2.2 with z | ⟨d, d0, d1, z⟩
        · omega
        · by_cases dc : d = c
          · rw [dc] at z; omega
          · have s2 := (k0.2.1 d c d0 d1 c0 c1 dc).1
            omega
      · rcases B.2.2 with z | ⟨d, d0, d1, z⟩
        · rcases C.2.2 with z' | ⟨d', d0', d1', z'⟩
          · omega
          · have D' := k0.1 d' d0' d1'
            omega
        · rcases C.2.2 with z' | ⟨d', d0', d1', z'⟩
          · have D := k0.1 d d0 d1
            omega
          · by_cases dd : d = d'
            · rw [dd] at z; omega
            · have s2 := (k0.2.1 d d' d0 d1 d0' d1' dd).1
              omega
    · have := h.1.2.1.2 c c0 (by omega)
      rcases hp with q | q
      · omega
      · rcases C.2.2 with z | ⟨d, d0, d1, z⟩
        · omega
        · have D := k0.1 d d0 d1
          omega
  have k1 : K1 N := by
    refine ⟨by rw [e16, e1]; exact e11, fun c c0 c1 => ?_⟩
    rw [e1] at c1
    by_cases cb : c = b
    · rw [cb, bx2 e2]; exact ⟨ag, t90⟩
    · have q := h.1.2.1.2 c c0 c1
      have o := oth c c0 (by omega) cb
      have a1 : AgB N (wN m) c := by
        obtain ⟨⟨a1, a2, a3, a4⟩, ⟨b1, b2⟩, x, d, e', f, g, i⟩ := q.1
        unfold AgB
        rw [bx2 e2, pg2 e2, mr2 e2]
        refine ⟨⟨a1, obz e2 a2, a3, obz e2 a4⟩, ⟨b1, b2⟩, ?_, fun j => ?_, fun j h1 h2 => ?_, fun r h1 h2 => ?_, ?_, fun l h1 h2 => (i l h1 h2).fr (fun c j h3 h4 => o c j (by omega))⟩
        · rw [o _ _ (by omega), o _ _ (by omega)]; exact x
        · rw [o _ _ (by omega)]; exact d j
        · rw [o _ _ (by omega)]; exact e' j h1 h2
        · rw [← f r h1 h2]
          unfold FX1_greatestFor
          rw [o _ _ (by omega)]
        · rw [o _ _ (by omega)]; exact g
      refine ⟨a1.cg ?_ ?_ ?_ ?_ ?_ ?_, ?_⟩
      · show mi N 87 _ = mi m 87 _; rw [kr 87 (by decide)]
      · intro i i0 i1; show mi N 89 _ = mi m 89 _; exact r89 _ (by omega)
      · show mi N 91 _ = mi m 91 _; rw [kr 91 (by decide)]
      · intro l l0 l1
        have l2 : l < mi m 91 c.toNat := l1
        have l12 := h.i.a 91 0 12 (by decide) c.toNat
        refine ⟨?_, ?_, ?_, ?_⟩
        · show mi N 92 _ = mi m 92 _; rw [kr 92 (by decide)]
        · show (if 0 ≤ c then (if mi N 93 ((12 * c) + l).toNat ≠ 0 then 1 else 0) else 0 : Int) = if 0 ≤ c then (if mi m 93 ((12 * c) + l).toNat ≠ 0 then 1 else 0) else 0
          rw [r93 _ (by omega)]
        · show (mi N 95 _, mi N 96 _, mi N 97 _) = (mi m 95 _, mi m 96 _, mi m 97 _)
          rw [kr 95 (by decide), kr 96 (by decide), kr 97 (by decide)]
        · show mi N 94 _ = mi m 94 _; rw [kr 94 (by decide)]
      · show (fun j => cdX N ((170 * c) + j)) = fun j => cdX m ((170 * c) + j)
        unfold cdX
        rw [kf 98 (by decide), kf 99 (by decide)]
      · intro r r0 r1
        show FX12_mostOf N (mi N 88 _) = FX12_mostOf m (mi m 88 _)
        rw [r88 _ (by omega)]
        rfl
      · rw [bx2 e2, o _ _ (by omega), r90 _ (by omega)]; exact q.2
  have ri : RI N := h.1.1.1.1.bx hS iN (fun o ho j => by
    have z := (by decide : ∀ o ∈ ([106, 107, 108, 109, 110, 111, 112, 114, 91, 94, 95, 96, 97, 98, 99] : List Nat), o < 145 ∧ o ≠ 62 ∧ ¬ (o = 88 ∨ o = 89 ∨ o = 90 ∨ o = 93)) o ho
    exact v o j z.1 z.2.1 z.2.2) (fun k _ => v 86 k (by decide) (by decide) (by decide)) h89 h88
  have ra : RA N := by
    obtain ⟨⟨-, r2, r3⟩, r4⟩ := h.1.1
    refine ⟨⟨ri, fun x s q0 q1 q2 q3 => ?_, fun j => ?_⟩, fun p => ?_⟩
    · rw [e1] at q1
      rcases h88 ((8 * x) + s).toNat with z | z
      · rw [z]; exact r2 x s q0 q1 q2 q3
      · exact z
    · rw [v 123 _ (by decide) (by decide) (by decide), v 124 _ (by decide) (by decide) (by decide)]
      exact r3 j
    · rw [v 86 70 (by decide) (by decide) (by decide), e1, v 86 21 (by decide) (by decide) (by decide), v 133 _ (by decide) (by decide) (by decide), v 134 _ (by decide) (by decide) (by decide), v 135 _ (by decide) (by decide) (by decide), v 136 _ (by decide) (by decide) (by decide), v 136 _ (by decide) (by decide) (by decide)]
      exact r4 p
  have k2 : K2 N := by
    refine ⟨by rw [e17, v 86 21 (by decide) (by decide) (by decide)]; exact h.1.2.2.1.1, fun g g0 g1 => ?_⟩
    rw [v 86 21 (by decide) (by decide) (by decide)] at g1
    have gg : g < mi m 0 17 := by rw [h.1.2.2.1.1]; exact g1
    obtain ⟨q1, q2, q3⟩ := h.1.flt g0 gg
    rw [fl2 e2, mr2 e2]
    refine ⟨q1, ?_⟩
    have s := k0.2.2.2.2.1 b g hb.1 hb.2 g0 gg
    have G := k0.2.2.1 g g0 gg
    have ec : ∀ c j : Nat, fl m g ≤ c → c < fl m g + 9 → mi N c j = mi m c j := fun c j x y => by
      refine w c j (by omega) ?_ (by omega)
      rintro ⟨z1, z2⟩
      rcases B.2.2 with z | ⟨d, d0, d1, z⟩
      · omega
      · have s2 := k0.2.2.2.2.1 d g d0 d1 g0 gg
        omega
    exact ⟨q2.fr e2 ec, q3.fr e2 g0 ec (fun c j a b d e => v c j (by omega) (by omega) (by omega)) (fun j a => Or.inl (v 105 j (by decide) (by decide) (by decide)).symm) (fun k => (q2.2.2.2.2.2.2.1 k).2)⟩
  have r : ∀ o, sto o → RC m o → RC N o := fun o ho hr => hr.same (fun r j hr => v _ _ (by unfold sto at ho; omega) (by unfold sto at ho; omega) (by unfold sto at ho; omega))
  have qr : QR N := by
    obtain ⟨-, -, -, ⟨c1, c2, c3⟩, cr, fg48⟩ := h.1
    refine ⟨ra, k1, k2, ⟨r 24 (Or.inl rfl) c1, r 32 (Or.inr (Or.inl rfl)) c2, r 40 (Or.inr (Or.inr rfl)) c3⟩, ⟨fun j => by rw [v _ _ (by omega) (by omega) (by omega)]; exact cr.1 j, fun j => by rw [v _ _ (by omega) (by omega) (by omega)]; exact cr.2.1 j, fun j => by rw [v _ _ (by omega) (by omega) (by omega)]; exact cr.2.2.1 j, by rw [v _ _ (by omega) (by omega) (by omega)]; exact cr.2.2.2⟩, fg48.fr e2 (fun c j a b => v c j (by omega) (by omega) (by omega))⟩
  refine ⟨qr, k0.e2 e2 e16 e17, fun c c0 c1 => ?_, h.k4.fr (fun c j hc => v c j (by omega) (by omega) (by omega)), h.k5.fr (fun c j hc => v c j (by omega) (by omega) (by omega)), h.k6.fr (fun c j hc => v c j (by omega) (by omega) (by omega)), h.k7.fr (fun c j hc => v c j (by omega) (by omega) (by omega)) (fun c j _ => wl c j), h.k8.fr (fun c j hc => v c j (by omega) (by omega) (by omega)), h.k9.fr (fun c j hc => v c j (by omega) (by omega) (by omega)), h.ka.fr (fun c j hc => v c j (by omega) (by omega) (by omega)), h.kt.fr (fun j => v 52 j (by omega) (by omega) (by omega)), fun c c0 c1 => ?_, ?_⟩
  · rw [e16] at c1
    have g := h.k3 c c0 c1
    have e5 : mi N (pg m c) 5 = mi m (pg m c) 5 := by
      by_cases cb : c = b
      · rw [cb]; exact w _ _ (by omega) (by omega) (by omega)
      · exact oth c c0 c1 cb _ _ (by omega)
    rw [pg2 e2, e5]
    refine ⟨g.1, fun l l0 l1 => ?_⟩
    have l2 : l < mi N 91 c.toNat := l1
    rw [kr 91 (by decide)] at l2
    show mi N 97 _ ≤ _
    rw [kr 97 (by decide)]
    exact g.2 l l0 l2
  · rw [e1] at c0
    rw [kr 91 (by decide), r90 _ (by omega)]
    exact h.kb c c0 c1
  · have z := h.kz
    unfold KZ at z ⊢
    rw [e16, e17, show mz N = mz m from congrArg (fun q => q.2.2.2) e2]
    refine ⟨⟨z.1.1, fun q hq => obz e2 (z.1.2 q (by rw [← mr2 e2]; exact hq))⟩, fun c c0 c1 s hs => ?_⟩
    rw [e16] at c1
    rw [bx2 e2]
    by_cases cb : c = b
    · rw [cb]; exact km s hs
    · rw [oth c c0 c1 cb _ _ (by omega), r88 _ (by omega)]
      exact z.2 c c0 c1 s hs

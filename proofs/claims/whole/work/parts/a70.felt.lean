/-! flights: what both sides write of one -/
theorem mr2 {m N : AM} (e : N.2.2 = m.2.2) : mr N = mr m := congrArg (fun q => q.1) e
theorem bx2 {m N : AM} (e : N.2.2 = m.2.2) (b : Int) : bx N b = bx m b := by unfold bx; rw [mr2 e]
theorem pg2 {m N : AM} (e : N.2.2 = m.2.2) (b : Int) : pg N b = pg m b := by unfold pg; rw [bx2 e, mr2 e]
theorem fl2 {m N : AM} (e : N.2.2 = m.2.2) (b : Int) : fl N b = fl m b := by unfold fl; rw [mr2 e]
theorem obz {m N : AM} (e : N.2.2 = m.2.2) {a c : Nat} {fs : List (Nat × Nat × Nat × Nat)} (h : ObA m a c fs) : ObA N a c fs := by
  have e1 : mr N = mr m := congrArg (fun q => q.1) e
  have e2 : mk N = mk m := congrArg (fun q => q.2.1) e
  have e3 : mn N = mn m := congrArg (fun q => q.2.2.1) e
  have e4 : mz N = mz m := congrArg (fun q => q.2.2.2) e
  unfold ObA
  rw [e1, e2, e3, e4]
  exact h
theorem AgL.fr {m N : AM} {p : Nat} {W : ZW} {b l : Int} (e : ∀ c j : Nat, p ≤ c → c ≤ p + 5 → mi N c j = mi m c j) (ha : AgL m p W b l) : AgL N p W b l := by
  unfold AgL at ha ⊢
  rw [e p _ (by omega) (by omega), e p _ (by omega) (by omega), e (p + 2) _ (by omega) (by omega), e (p + 3) _ (by omega) (by omega), e (p + 4) _ (by omega) (by omega), e (p + 5) _ (by omega) (by omega)]
  refine ⟨ha.1, ha.2.1, ha.2.2.1, ha.2.2.2.1, fun j h1 h2 => ?_⟩
  rw [e (p + 1) _ (by omega) (by omega)]
  exact ha.2.2.2.2 j h1 h2
theorem AgB.fr {m N : AM} (e2 : N.2.2 = m.2.2) {W : ZW} {b : Int} (e : ∀ c j : Nat, (bx m b ≤ c ∧ c < bx m b + 9) ∨ (pg m b ≤ c ∧ c ≤ pg m b + 5) → mi N c j = mi m c j) (ha : AgB m W b) : AgB N W b := by
  obtain ⟨⟨a1, a2, a3, a4⟩, ⟨b1, b2⟩, c, d, e', f, g, i⟩ := ha
  unfold AgB
  rw [bx2 e2, pg2 e2, mr2 e2]
  refine ⟨⟨a1, obz e2 a2, a3, obz e2 a4⟩, ⟨b1, b2⟩, ?_, fun j => ?_, fun j h1 h2 => ?_, fun r h1 h2 => ?_, ?_, fun l h1 h2 => (i l h1 h2).fr (fun c j h3 h4 => e c j (by omega))⟩
  · rw [e _ _ (by omega), e _ _ (by omega)]; exact c
  · rw [e _ _ (by omega)]; exact d j
  · rw [e _ _ (by omega)]; exact e' j h1 h2
  · rw [← f r h1 h2]
    unfold FX1_greatestFor
    rw [e _ _ (by omega)]
  · rw [e _ _ (by omega)]; exact g
theorem K1.fr {m N : AM} (k : K1 m) (e2 : N.2.2 = m.2.2) (er : ∀ c j : Nat, (87 ≤ c ∧ c ≤ 99) ∨ (c = 86 ∧ j = 1) ∨ (c = 0 ∧ j = 16) → mi N c j = mi m c j) (e : ∀ b : Int, 0 ≤ b → b < mi m 0 16 → ∀ c j : Nat, (bx m b ≤ c ∧ c < bx m b + 9) ∨ (pg m b ≤ c ∧ c ≤ pg m b + 5) → mi N c j = mi m c j) : K1 N := by
  have ew : wN N = wN m := wN_rows (fun o ho j => er o j (Or.inl ((by decide : ∀ o ∈ ([87, 88, 89, 91, 92, 93, 94, 95, 96, 97, 98, 99] : List Nat), 87 ≤ o ∧ o ≤ 99) o ho))) (er 86 1 (by omega))
  have k0 := k.1
  refine ⟨by rw [er 0 16 (by omega), er 86 1 (by omega)]; exact k.1, fun b h0 h1 => ?_⟩
  rw [er 86 1 (by omega)] at h1
  have q := k.2 b h0 h1
  rw [ew]
  refine ⟨q.1.fr e2 (e b h0 (by omega)), ?_⟩
  rw [bx2 e2, e b h0 (by omega) (bx m b) 5 (by omega), er 90 _ (by omega)]
  exact q.2
theorem K0.e2 {m N : AM} (k : K0 m) (e2 : N.2.2 = m.2.2) (e16 : mi N 0 16 = mi m 0 16) (e17 : mi N 0 17 = mi m 0 17) : K0 N := by
  have eb : ∀ b, bx N b = bx m b := bx2 e2
  have ef : ∀ f, fl N f = fl m f := fl2 e2
  have ep : ∀ b, pg N b = pg m b := pg2 e2
  have ez : mz N = mz m := congrArg (fun q => q.2.2.2) e2
  unfold K0
  simp only [e16, e17, eb, ef, ep, mr2 e2, ez]
  exact k
theorem FLG.fr {m N : AM} (e2 : N.2.2 = m.2.2) {a : Nat} (e : ∀ c j : Nat, a ≤ c → c < a + 9 → mi N c j = mi m c j) (f : FLG m a) : FLG N a := by
  obtain ⟨a1, a2, a3, a4, a5, a6, a7, a8⟩ := f
  have e1 : mr N = mr m := congrArg (fun q => q.1) e2
  have e3 : mk N = mk m := congrArg (fun q => q.2.1) e2
  have e4 : mn N = mn m := congrArg (fun q => q.2.2.1) e2
  have e5 : mz N = mz m := congrArg (fun q => q.2.2.2) e2
  refine ⟨obz e2 a1, a2, fun i hi => by rw [e1, e3, e4, e5]; exact a3 i hi, fun j => ?_, fun j => ?_, fun j => ?_, fun j => ?_, fun i hi j => ?_⟩
  · rw [e _ _ (by omega) (by omega)]; exact a4 j
  · rw [e _ _ (by omega) (by omega)]; exact a5 j
  · rw [e _ _ (by omega) (by omega)]; exact a6 j
  · rw [e _ _ (by omega) (by omega)]; exact a7 j
  · rw [e _ _ (by omega) (by omega)]; exact a8 i hi j
theorem AgF.fr {m N : AM} (e2 : N.2.2 = m.2.2) {f : Int} (h0 : 0 ≤ f) (e : ∀ c j : Nat, fl m f ≤ c → c < fl m f + 9 → mi N c j = mi m c j) (er : ∀ c j : Nat, 101 ≤ c → c ≤ 104 → 3 * f ≤ (j : Int) → (j : Int) < 3 * f + 3 → mi N c j = mi m c j) (e5 : ∀ j : Nat, 200 * (3 * f) ≤ (j : Int) → mi m 105 j = mi N 105 j ∨ 200 * (3 * f + 3) ≤ (j : Int)) (hn : ∀ k : Nat, mi m (fl m f + 4) k ≤ 60) (a : AgF m f) : AgF N f := by
  intro k hk
  obtain ⟨r1, r2, r3, r4, r5⟩ := a k hk
  rw [fl2 e2, e (fl m f + 1) k (by omega) (by omega), e (fl m f + 2) k (by omega) (by omega), e (fl m f + 3) k (by omega) (by omega), e (fl m f + 4) k (by omega) (by omega), er 101 _ (by omega) (by omega) (by omega) (by omega), er 102 _ (by omega) (by omega) (by omega) (by omega), er 103 _ (by omega) (by omega) (by omega) (by omega), er 104 _ (by omega) (by omega) (by omega) (by omega)]
  refine ⟨r1, r2, r3, r4, fun j hj => ?_⟩
  have := hn k
  rw [e (fl m f + 6 + k) j (by omega) (by omega), r5 j hj]
  rcases e5 ((200 * ((3 * f) + k)) + j).toNat (by omega) with z | z
  · exact z
  · omega
/-- one flight is written, on both sides -/
theorem Inv.fl1 {m N : AM} {f : Int} (h : Inv m) (hf : 0 ≤ f ∧ f < mi m 0 17) (e2 : N.2.2 = m.2.2) (w : ∀ c j : Nat, ¬ (fl m f ≤ c ∧ c < fl m f + 9) → ¬ (101 ≤ c ∧ c ≤ 105) → mi N c j = mi m c j) (wl : ∀ c j, ml N c j = ml m c j) (er : ∀ c j : Nat, 101 ≤ c → c ≤ 104 → ¬ (3 * f ≤ (j : Int) ∧ (j : Int) < 3 * f + 3) → mi N c j = mi m c j) (e5 : ∀ j : Nat, ¬ (200 * (3 * f) ≤ (j : Int) ∧ (j : Int) < 200 * (3 * f + 3)) → mi N 105 j = mi m 105 j) (iN : IM N) (fg : FLG N (fl m f)) (ag : AgF N f) : Inv N := by
  have k0 := h.k0
  have F := k0.2.2.1 f hf.1 hf.2
  have v : ∀ c j : Nat, c < 145 → ¬ (101 ≤ c ∧ c ≤ 105) → mi N c j = mi m c j := fun c j a b => w c j (by omega) b
  have e16 : mi N 0 16 = mi m 0 16 := v _ _ (by decide) (by decide)
  have e17 : mi N 0 17 = mi m 0 17 := v _ _ (by decide) (by decide)
  have bxc : ∀ b : Int, 0 ≤ b → b < mi m 0 16 → ∀ c j : Nat, (bx m b ≤ c ∧ c < bx m b + 9) ∨ (pg m b ≤ c ∧ c ≤ pg m b + 5) → mi N c j = mi m c j := fun b b0 b1 c j hc => by
    have s := k0.2.2.2.2.1 b f b0 b1 hf.1 hf.2
    have B := k0.1 b b0 b1
    refine w c j ?_ ?_
    · rcases hc with q | q
      · omega
      · rcases B.2.2 with z | ⟨d, d0, d1, z⟩
        · omega
        · have s2 := k0.2.2.2.2.1 d f d0 d1 hf.1 hf.2
          omega
    · rcases hc with q | q
      · omega
      · rcases B.2.2 with z | ⟨d, d0, d1, z⟩
        · omega
        · have D := k0.1 d d0 d1
          omega
  have k1 : K1 N := h.1.2.1.fr e2 (fun c j hc => v c j (by omega) (by omega)) bxc
  have hS : St N := shc_st h.s e2
  have ra : RA N := h.1.1.fr hS iN (fun c j hc => by
    refine v c j ?_ ?_
    · rcases hc with q | q
      · have := (by decide : ∀ c ∈ riL, c < 145 ∧ ¬ (101 ≤ c ∧ c ≤ 105)) c q
        omega
      · omega
    · rcases hc with q | q
      · exact ((by decide : ∀ c ∈ riL, c < 145 ∧ ¬ (101 ≤ c ∧ c ≤ 105)) c q).2
      · omega)
  have k2 : K2 N := by
    refine ⟨by rw [e17, v 86 21 (by decide) (by decide)]; exact h.1.2.2.1.1, fun g g0 g1 => ?_⟩
    rw [v 86 21 (by decide) (by decide)] at g1
    have gg : g < mi m 0 17 := by rw [h.1.2.2.1.1]; exact g1
    obtain ⟨q1, q2, q3⟩ := h.1.flt g0 gg
    rw [fl2 e2, mr2 e2]
    refine ⟨q1, ?_⟩
    by_cases c : g = f
    · rw [c]; exact ⟨fg, ag⟩
    · have s := k0.2.2.2.1 g f g0 gg hf.1 hf.2 c
      have G := k0.2.2.1 g g0 gg
      have ec : ∀ c j : Nat, fl m g ≤ c → c < fl m g + 9 → mi N c j = mi m c j := fun c j a b => w c j (by omega) (by omega)
      exact ⟨q2.fr e2 ec, q3.fr e2 g0 ec (fun c j a b d e => er c j a b (by omega)) (fun j a => by
        by_cases z : 200 * (3 * g + 3) ≤ (j : Int)
        · exact Or.inr z
        · exact Or.inl (e5 j (by omega)).symm) (fun k => (q2.2.2.2.2.2.2.1 k).2)⟩
  have r : ∀ o, sto o → RC m o → RC N o := fun o ho hr => hr.same (fun r j hr => v _ _ (by unfold sto at ho; omega) (by unfold sto at ho; omega))
  have qr : QR N := by
    obtain ⟨-, -, -, ⟨c1, c2, c3⟩, cr, fg48⟩ := h.1
    refine ⟨ra, k1, k2, ⟨r 24 (Or.inl rfl) c1, r 32 (Or.inr (Or.inl rfl)) c2, r 40 (Or.inr (Or.inr rfl)) c3⟩, ⟨fun j => by rw [v _ _ (by omega) (by omega)]; exact cr.1 j, fun j => by rw [v _ _ (by omega) (by omega)]; exact cr.2.1 j, fun j => by rw [v _ _ (by omega) (by omega)]; exact cr.2.2.1 j, by rw [v _ _ (by omega) (by omega)]; exact cr.2.2.2⟩, fg48.fr e2 (fun c j a b => v c j (by omega) (by omega))⟩
  have ew : wN N = wN m := wN_rows (fun o ho j => v o j ((by decide : ∀ o ∈ ([87, 88, 89, 91, 92, 93, 94, 95, 96, 97, 98, 99] : List Nat), o < 145 ∧ ¬ (101 ≤ o ∧ o ≤ 105)) o ho).1 ((by decide : ∀ o ∈ ([87, 88, 89, 91, 92, 93, 94, 95, 96, 97, 98, 99] : List Nat), o < 145 ∧ ¬ (101 ≤ o ∧ o ≤ 105)) o ho).2) (v 86 1 (by decide) (by decide))
  refine ⟨qr, k0.e2 e2 e16 e17, fun b b0 b1 => ?_, h.k4.fr (fun c j hc => v c j (by omega) (by omega)), h.k5.fr (fun c j hc => v c j (by omega) (by omega)), h.k6.fr (fun c j hc => v c j (by omega) (by omega)), h.k7.fr (fun c j hc => v c j (by omega) (by omega)) (fun c j _ => wl c j), h.k8.fr (fun c j hc => v c j (by omega) (by omega)), h.k9.fr (fun c j hc => v c j (by omega) (by omega)), h.ka.fr (fun c j hc => v c j (by omega) (by omega)), h.kt.fr (fun j => v 52 j (by omega) (by omega)), fun b b0 b1 => ?_, ?_⟩
  · rw [e16] at b1
    rw [pg2 e2, bxc b b0 b1 (pg m b) 5 (by omega), ew]
    exact h.k3 b b0 b1
  · rw [v 86 1 (by decide) (by decide)] at b0
    rw [v 91 _ (by decide) (by decide), v 90 _ (by decide) (by decide)]
    exact h.kb b b0 b1
  · have z := h.kz
    unfold KZ at z ⊢
    rw [e16, e17, show mz N = mz m from congrArg (fun q => q.2.2.2) e2]
    exact ⟨⟨z.1.1, fun q hq => obz e2 (z.1.2 q (by rw [← mr2 e2]; exact hq))⟩, z.2.fr e16 (bx2 e2) (fun b b0 b1 s _ => bxc b b0 b1 _ _ (by omega)) (fun j => v 88 j (by decide) (by decide))⟩
/-- ranges, when only cells of boxes and flights change -/
theorem IM.hi {m N : AM} (h : IM m) (e : ∀ c j : Nat, c < 145 → mi N c j = mi m c j) : IM N := h.same (fun q hq => e _ _ ((by decide : ∀ q ∈ imS, q.1 < 145) q hq)) (fun q hq j => e _ _ ((by decide : ∀ q ∈ imA, q.1 < 145) q hq)) (fun j => e _ _ (by decide)) (e _ _ (by decide)) (fun j hj => e _ _ (by omega)) (e _ _ (by decide))
theorem key_felt {m : AM} (h : Inv m) (fk a b c : Int) : KeyP (FX11_felt m fk a b c) (fun N => FX12_felt N fk a b c) := by
  have e17 : mi m 0 17 = mi m 86 21 := h.1.2.2.1.1
  by_cases g : (0 ≤ fk ∧ (0 ≤ fk / 10 ∧ fk / 10 < mi m 0 17) ∧ fk % 10 ≤ 2) ∧ (-99999 ≤ a ∧ a ≤ 99999) ∧ (-999 ≤ b ∧ b ≤ 999) ∧ 0 ≤ c ∧ c ≤ 99999
  · have hf : 0 ≤ fk / 10 ∧ fk / 10 < mi m 0 17 := g.1.2.1
    have F := h.1.flt hf.1 hf.2
    have F0 := h.k0.2.2.1 (fk / 10) hf.1 hf.2
    have f1 : FX11_felt m fk a b c = (1, FX3_tell m (fl m (fk / 10)) (fk % 10) a b c) := by
      unfold FX11_felt
      rw [if_pos g.1, if_pos g.2.1, if_pos g.2.2.1, if_neg (show ¬ c < 0 by omega), if_pos g.2.2.2.2]
    have f2 : ∀ N, mi N 86 21 = mi m 86 21 → FX12_felt N fk a b c = (1, si (si (si N 101 ((3 * (fk / 10)) + (fk % 10)).toNat a) 102 ((3 * (fk / 10)) + (fk % 10)).toNat b) 103 ((3 * (fk / 10)) + (fk % 10)).toNat c) := fun N eN => by
      unfold FX12_felt
      rw [eN, if_pos (show 0 ≤ fk ∧ (0 ≤ fk / 10 ∧ fk / 10 < mi m 86 21) ∧ 0 ≤ fk % 10 ∧ fk % 10 ≤ 2 by omega), if_pos g.2.1, if_pos g.2.2.1, if_pos g.2.2.2]
    have hk : (fk % 10).toNat < 3 := by omega
    have hi : ((3 * (fk / 10)) + (fk % 10)).toNat = (3 * (fk / 10)).toNat + (fk % 10).toNat := by omega
    have hi2 : (((3 * (fk / 10)).toNat : Nat) : Int) = 3 * (fk / 10) := by omega
    rw [hi] at f2
    unfold FX3_tell at f1
    generalize hf0 : fk / 10 = f at *
    generalize (fk % 10).toNat = k at *
    generalize (3 * f).toNat = t at *
    rw [f1]
    unfold KeyP
    generalize hA : si (si (si m (fl m f + 1) k a) (fl m f + 2) k b) (fl m f + 3) k c = A
    have zA : A.2 = m.2 := by rw [← hA]; rfl
    have wA : ∀ p j, ¬ (fl m f + 1 ≤ p ∧ p ≤ fl m f + 3 ∧ j = k) → mi A p j = mi m p j := fun p j q => by
      rw [← hA, mi_si_ne _ _ (by omega), mi_si_ne _ _ (by omega), mi_si_ne _ _ (by omega)]
    have vA : mi A (fl m f + 1) k = a ∧ mi A (fl m f + 2) k = b ∧ mi A (fl m f + 3) k = c := by
      rw [← hA]
      refine ⟨?_, ?_, ?_⟩
      · rw [mi_si_ne _ _ (by omega), mi_si_ne _ _ (by omega), mi_si_same _ _ _ (by omega) (by omega)]
      · rw [mi_si_ne _ _ (by omega), mi_si_same _ _ _ (by omega) (by omega)]
      · rw [mi_si_same _ _ _ (by omega) (by omega)]
    clear hA
    have iA : IM A := h.i.hi (fun p j hp => wA p j (by omega))
    show St A ∧ IM A ∧ (1 : Int) = (FX12_felt A fk a b c).1 ∧ Inv (FX12_felt A fk a b c).2
    rw [f2 A (wA _ _ (by omega))]
    refine ⟨shc_st h.s (congrArg (fun q => q.2) zA), iA, rfl, ?_⟩
    show Inv (si (si (si A 101 (t + k) a) 102 (t + k) b) 103 (t + k) c)
    have iN : IM (si (si (si A 101 (t + k) a) 102 (t + k) b) 103 (t + k) c) := by
      have b1 : IM (si A 101 (t + k) a) := iA.cell (-99999) 99999 (fun q hq e _ => by revert q; decide) (by decide) g.2.1 (by omega) (by decide) (by decide) (by decide) (by decide)
      have b2 : IM (si (si A 101 (t + k) a) 102 (t + k) b) := b1.cell (-999) 999 (fun q hq e _ => by revert q; decide) (by decide) g.2.2.1 (by omega) (by decide) (by decide) (by decide) (by decide)
      exact b2.cell 0 99999 (fun q hq e _ => by revert q; decide) (by decide) g.2.2.2 (by omega) (by decide) (by decide) (by decide) (by decide)
    generalize hN : si (si (si A 101 (t + k) a) 102 (t + k) b) 103 (t + k) c = N at iN
    have zN : N.2 = m.2 := by rw [← hN]; exact zA
    have wN0 : ∀ p j, ¬ (101 ≤ p ∧ p ≤ 103 ∧ j = t + k) → mi N p j = mi A p j := fun p j q => by
      rw [← hN, mi_si_ne _ _ (by omega), mi_si_ne _ _ (by omega), mi_si_ne _ _ (by omega)]
    have vN : mi N 101 (t + k) = a ∧ mi N 102 (t + k) = b ∧ mi N 103 (t + k) = c := by
      rw [← hN]
      refine ⟨?_, ?_, ?_⟩
      · rw [mi_si_ne _ _ (by omega), mi_si_ne _ _ (by omega), mi_si_same _ _ _ (by omega) (by omega)]
      · rw [mi_si_ne _ _ (by omega), mi_si_same _ _ _ (by omega) (by omega)]
      · rw [mi_si_same _ _ _ (by omega) (by omega)]
    clear hN
    have P4 : N.2.2 = m.2.2 := congrArg (fun q => q.2) zN
    have eml : ∀ c j, ml N c j = ml m c j := fun c j => congrArg (fun q : (Nat → Nat → Int) × _ => (zl (q.1 c j)).toInt) zN
    obtain ⟨q1, q2, q3⟩ := F
    have fg : FLG N (fl m f) := by
      obtain ⟨a1, a2, a3, a4, a5, a6, a7, a8⟩ := q2
      have e1 : mr N = mr m := congrArg (fun q => q.1) P4
      have e3 : mk N = mk m := congrArg (fun q => q.2.1) P4
      have e4 : mn N = mn m := congrArg (fun q => q.2.2.1) P4
      have e5 : mz N = mz m := congrArg (fun q => q.2.2.2) P4
      refine ⟨obz P4 a1, a2, fun i hi => by rw [e1, e3, e4, e5]; exact a3 i hi, fun j => ?_, fun j => ?_, fun j => ?_, fun j => ?_, fun i hi j => ?_⟩
      · rw [wN0 _ _ (by omega)]
        by_cases y : j = k
        · rw [y, vA.1]; exact g.2.1
        · rw [wA _ _ (by omega)]; exact a4 j
      · rw [wN0 _ _ (by omega)]
        by_cases y : j = k
        · rw [y, vA.2.1]; exact g.2.2.1
        · rw [wA _ _ (by omega)]; exact a5 j
      · rw [wN0 _ _ (by omega)]
        by_cases y : j = k
        · rw [y, vA.2.2]; exact g.2.2.2
        · rw [wA _ _ (by omega)]; exact a6 j
      · rw [wN0 _ _ (by omega), wA _ _ (by omega)]; exact a7 j
      · rw [wN0 _ _ (by omega), wA _ _ (by omega)]; exact a8 i hi j
    refine h.fl1 hf P4 (fun p j r1 r2 => by rw [wN0 _ _ (by omega), wA _ _ (by omega)]) eml (fun p j r1 r2 r3 => by rw [wN0 _ _ (by omega), wA _ _ (by omega)]) (fun j r => by rw [wN0 _ _ (by omega), wA _ _ (by omega)]) iN fg ?_
    intro x hx
    obtain ⟨r1, r2, r3, r4, r5⟩ := q3 x hx
    rw [fl2 P4]
    have ex : ((3 * f) + (x : Int)).toNat = t + x := by omega
    rw [ex] at r1 r2 r3 r4 ⊢
    have b4 : mi N (fl m f + 4) x = mi m (fl m f + 4) x := by rw [wN0 _ _ (by omega), wA _ _ (by omega)]
    have b5 : mi N 104 (t + x) = mi m 104 (t + x) := by rw [wN0 _ _ (by omega), wA _ _ (by omega)]
    rw [b4, b5]
    by_cases y : x = k
    · rw [y] at r4 r5 ⊢
      rw [wN0 (fl m f + 1) _ (by omega), wN0 (fl m f + 2) _ (by omega), wN0 (fl m f + 3) _ (by omega), vA.1, vA.2.1, vA.2.2, vN.1, vN.2.1, vN.2.2]
      refine ⟨rfl, rfl, rfl, r4, fun j hj => ?_⟩
      rw [wN0 _ _ (by omega), wA _ _ (by omega), wN0 _ _ (by omega), wA _ _ (by omega)]
      exact r5 j hj
    · rw [wN0 (fl m f + 1) _ (by omega), wN0 (fl m f + 2) _ (by omega), wN0 (fl m f + 3) _ (by omega), wN0 101 _ (by omega), wN0 102 _ (by omega), wN0 103 _ (by omega), wA (fl m f + 1) _ (by omega), wA (fl m f + 2) _ (by omega), wA (fl m f + 3) _ (by omega), wA 101 _ (by omega), wA 102 _ (by omega), wA 103 _ (by omega)]
      refine ⟨r1, r2, r3, r4, fun j hj => ?_⟩
      rw [wN0 _ _ (by omega), wA _ _ (by omega), wN0 _ _ (by omega), wA _ _ (by omega)]
      exact r5 j hj
  · refine keyP_no h (v := -1) ?_ ?_
    · unfold FX11_felt
      (repeat' split) <;> first | rfl | (exfalso; omega)
    · show FX12_felt m fk a b c = _
      unfold FX12_felt
      (repeat' split) <;> first | rfl | (exfalso; omega)
theorem ag_felt {G : QW} {m : AM} {f a b c : Int} (h : Inv m) (hf1 : -2147483648 ≤ f) (hf2 : f < 2147483648) (ha1 : -2147483648 ≤ a) (ha2 : a < 2147483648) (hb1 : -2147483648 ≤ b) (hb2 : b < 2147483648) (hc1 : -2147483648 ≤ c) (hc2 : c < 2147483648) : AG G mX11_felt mX12_felt 2 3 0 0 [vI f, vI a, vI b, vI c] m :=
  AG.key (g := fun N => FX12_felt N f a b c) (ct_X11_felt h.s h.i hf1 hf2 ha1 ha2 hb1 hb2 hc1 hc2 h.1.hf) (fun u v => ct_X12_felt u v hf1 hf2 ha1 ha2 hb1 hb2 hc1 hc2) (key_felt h f a b c)

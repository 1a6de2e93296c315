/-! papers -/
theorem along_alG {m : AM} (h6 : mi m 6 5 ≤ 20) {g : Int} (hg : g = 99 ∨ (0 ≤ g ∧ g < mi m 6 5)) : FX4_alongOf m g = if 0 ≤ (if g = 99 then -1 else g) ∧ (if g = 99 then -1 else g) < 20 then mi m 10 (if g = 99 then -1 else g).toNat else 0 := by
  unfold FX4_alongOf
  by_cases q : g = 99
  · rw [if_pos q, if_neg (show ¬ g < 0 by omega), if_pos (show g ≥ mi m 6 5 by omega), if_neg (by omega)]
  · rw [if_neg q, if_neg (show ¬ g < 0 by omega), if_neg (show ¬ g ≥ mi m 6 5 by omega), if_pos (by omega)]
theorem key_paper {m : AM} (h : Inv m) (sort k v on : Int) (hv : -2147483648 ≤ v ∧ v < 2147483648) (hd : ∀ N, Decidable ((0 ≤ sort ∧ sort ≤ 1) ∧ (0 ≤ on ∧ on / 100 ≤ 99) ∧ clP N sort k v ∧ grP N on)) : KeyP (FX11_paper m sort k v on) (fun N => papR N sort k v on (hd N)) := by
  have e : mi m 6 5 = mi m 86 70 := h.k6.1
  have e16 : mi m 0 16 = mi m 86 1 := h.1.2.1.1
  have e17 : mi m 0 17 = mi m 86 21 := h.1.2.2.1.1
  have h70 := h.i.s 86 70 0 20 (by decide)
  have h1 := h.i.s 86 1 0 6 (by decide)
  have cl : ∀ N, mi N 86 1 = mi m 86 1 → mi N 86 21 = mi m 86 21 → ((0 ≤ sort ∧ sort ≤ 1) ∧ clP N sort k v ↔ ((sort = 0 ∧ 0 ≤ k ∧ k ≤ 2 ∧ 0 ≤ v ∧ v ≤ 99999) ∨ (¬ (sort = 0 ∧ 0 ≤ k ∧ k ≤ 2) ∧ 10 ≤ k ∧ k - 10 < mi m 0 16 ∧ (sort = 0 ∨ (sort = 1 ∧ 0 ≤ v ∧ v / 100 < mi m 0 17 ∧ 0 < v % 100))))) := fun N a b => by
    unfold clP
    rw [a, b, e16, e17]
    by_cases q : sort = 0
    · rw [if_pos q]; omega
    · rw [if_neg q]; omega
  have gr : ∀ N, mi N 86 70 = mi m 86 70 → (grP N on ↔ (on / 100 = 99 ∨ (0 ≤ on / 100 ∧ on / 100 < mi m 6 5)) ∧ (on % 100 = 99 ∨ (0 ≤ on % 100 ∧ on % 100 < mi m 6 5))) := fun N a => by
    unfold grP
    rw [a, e]
  by_cases c : (0 ≤ sort ∧ sort ≤ 1) ∧ (0 ≤ on ∧ on / 100 ≤ 99) ∧ clP m sort k v ∧ grP m on
  · have c1 := (cl m rfl rfl).mp ⟨c.1, c.2.2.1⟩
    have c2 := (gr m rfl).mp c.2.2.2
    by_cases c3 : mi m 86 70 = 20
    · refine keyP_no h (v := -3) ?_ ?_
      · unfold FX11_paper
        rw [if_pos c1, if_neg (show ¬ on < 0 by omega), if_pos c2.1, if_pos c2.2, if_neg (show ¬ mi m 6 5 ≠ 20 by omega)]
      · show papR m sort k v on (hd m) = _
        unfold papR
        rw [if_pos c, if_pos c3]
    · have f1 : FX11_paper m sort k v on = FX4_write m sort k v (z_ior (FX4_alongOf m (on / 100)) (FX4_alongOf m (on % 100))) := by
        unfold FX11_paper
        rw [if_pos c1, if_neg (show ¬ on < 0 by omega), if_pos c2.1, if_pos c2.2, if_pos (show mi m 6 5 ≠ 20 by omega)]
      have f2 : ∀ N, mi N 86 70 = mi m 86 70 → mi N 86 1 = mi m 86 1 → mi N 86 21 = mi m 86 21 → papR N sort k v on (hd N) = (mi N 86 70, paM N sort k v (on / 100) (on % 100)) := fun N a b d => by
        have y := (cl N b d).mpr c1
        have y2 := (gr N a).mpr c2
        unfold papR
        rw [if_pos ⟨y.1, c.2.1, y.2, y2⟩, if_neg (by omega)]
      have a1 := along_alG (m := m) (by omega) c2.1
      have a2 := along_alG (m := m) (by omega) c2.2
      have g1 : -1 ≤ (if on / 100 = 99 then -1 else on / 100) ∧ (if on / 100 = 99 then -1 else on / 100) < mi m 86 70 := by split <;> omega
      have g2 : -1 ≤ (if on % 100 = 99 then -1 else on % 100) ∧ (if on % 100 = 99 then -1 else on % 100) < mi m 86 70 := by split <;> omega
      have hk : 0 ≤ k ∧ k ≤ 15 := by omega
      have zr := z_ior_rng (z_ior (FX4_alongOf m (on / 100)) (FX4_alongOf m (on % 100))) (z_ishl 1 (mi m 86 70))
      unfold FX4_write at f1
      rw [e] at f1
      have hn : mi m 86 70 = (((mi m 86 70).toNat : Nat) : Int) := by omega
      rw [f1]
      unfold KeyP
      generalize hZ : z_ior (z_ior (FX4_alongOf m (on / 100)) (FX4_alongOf m (on % 100))) (z_ishl 1 (mi m 86 70)) = Z at zr
      generalize hA : si (si (si (si (si m 7 (mi m 86 70).toNat sort) 8 (mi m 86 70).toNat k) 9 (mi m 86 70).toNat v) 10 (mi m 86 70).toNat Z) 6 5 (mi m 86 70 + 1) = A
      have iA : IM A := by
        rw [← hA]
        have b1 : IM (si m 7 (mi m 86 70).toNat sort) := h.i.cell 0 1 (fun q hq e _ => by revert q; decide) (by decide) (by omega) (by omega) (by decide) (by decide) (by decide) (by decide)
        have b2 : IM (si (si m 7 (mi m 86 70).toNat sort) 8 (mi m 86 70).toNat k) := b1.cell 0 15 (fun q hq e _ => by revert q; decide) (by decide) (by omega) (by omega) (by decide) (by decide) (by decide) (by decide)
        have b3 : IM (si (si (si m 7 (mi m 86 70).toNat sort) 8 (mi m 86 70).toNat k) 9 (mi m 86 70).toNat v) := b2.oneA (by decide) (by decide) (by decide) (by decide) (fun j hj => by omega) (by decide)
        have b4 : IM (si (si (si (si m 7 (mi m 86 70).toNat sort) 8 (mi m 86 70).toNat k) 9 (mi m 86 70).toNat v) 10 (mi m 86 70).toNat Z) := b3.oneA (by decide) (by decide) (by decide) (by decide) (fun j hj => by omega) (by decide)
        exact b4.scal 0 20 (by decide) (by decide) (by omega) (by omega) (by decide) (by decide) (by decide) (by decide)
      have zA : A.2 = m.2 := by rw [← hA]; rfl
      have wA : ∀ c j, c ≠ 7 → c ≠ 8 → c ≠ 9 → c ≠ 10 → ¬ (c = 6 ∧ j = 5) → mi A c j = mi m c j := fun c j q1 q2 q3 q4 q5 => by
        rw [← hA, mi_si_ne _ _ q5, mi_si_ne _ _ (fun z => q4 z.1), mi_si_ne _ _ (fun z => q3 z.1), mi_si_ne _ _ (fun z => q2 z.1), mi_si_ne _ _ (fun z => q1 z.1)]
      have w7 : ∀ j, mi A 7 j = (if j = (mi m 86 70).toNat then sort else mi m 7 j) ∧ mi A 8 j = (if j = (mi m 86 70).toNat then k else mi m 8 j) ∧ mi A 9 j = (if j = (mi m 86 70).toNat then v else mi m 9 j) ∧ mi A 10 j = (if j = (mi m 86 70).toNat then Z else mi m 10 j) := fun j => by
        rw [← hA]
        by_cases q : j = (mi m 86 70).toNat
        · rw [if_pos q, if_pos q, if_pos q, if_pos q, q]
          refine ⟨?_, ?_, ?_, ?_⟩
          · rw [mi_si_ne _ _ (by omega), mi_si_ne _ _ (by omega), mi_si_ne _ _ (by omega), mi_si_ne _ _ (by omega), mi_si_same _ _ _ (by omega) (by omega)]
          · rw [mi_si_ne _ _ (by omega), mi_si_ne _ _ (by omega), mi_si_ne _ _ (by omega), mi_si_same _ _ _ (by omega) (by omega)]
          · rw [mi_si_ne _ _ (by omega), mi_si_ne _ _ (by omega), mi_si_same _ _ _ (by omega) (by omega)]
          · rw [mi_si_ne _ _ (by omega), mi_si_same _ _ _ (by omega) (by omega)]
        · rw [if_neg q, if_neg q, if_neg q, if_neg q]
          refine ⟨?_, ?_, ?_, ?_⟩ <;> rw [mi_si_ne _ _ (by omega), mi_si_ne _ _ (by omega), mi_si_ne _ _ (by omega), mi_si_ne _ _ (by omega), mi_si_ne _ _ (by omega)]
      have w6 : mi A 6 5 = mi m 86 70 + 1 := by rw [← hA, mi_si_same _ _ _ (by omega) (by omega)]
      show St A ∧ IM A ∧ mi m 86 70 = (papR A sort k v on (hd A)).1 ∧ Inv (papR A sort k v on (hd A)).2
      clear hA
      have eA70 : mi A 86 70 = mi m 86 70 := wA 86 70 (by decide) (by decide) (by decide) (by decide) (by decide)
      rw [f2 A eA70 (wA 86 1 (by decide) (by decide) (by decide) (by decide) (by decide)) (wA 86 21 (by decide) (by decide) (by decide) (by decide) (by decide))]
      refine ⟨shc_st h.s (congrArg (fun q => q.2) zA), iA, eA70.symm, ?_⟩
      show Inv (paM A sort k v (on / 100) (on % 100))
      unfold paM
      rw [eA70]
      generalize (if on / 100 = 99 then -1 else on / 100) = p1 at a1 g1
      generalize (if on % 100 = 99 then -1 else on % 100) = p2 at a2 g2
      generalize hN : si (si (si (si (si (si A 133 (mi m 86 70).toNat sort) 134 (mi m 86 70).toNat k) 135 (mi m 86 70).toNat v) 136 (2 * mi m 86 70).toNat p1) 136 ((2 * mi m 86 70) + 1).toNat p2) 86 70 (mi m 86 70 + 1) = N
      have iN : IM N := by
        rw [← hN]
        have b1 : IM (si A 133 (mi m 86 70).toNat sort) := iA.cell 0 1 (fun q hq e _ => by revert q; decide) (by decide) (by omega) (by omega) (by decide) (by decide) (by decide) (by decide)
        have b2 : IM (si (si A 133 (mi m 86 70).toNat sort) 134 (mi m 86 70).toNat k) := b1.cell 0 15 (fun q hq e _ => by revert q; decide) (by decide) (by omega) (by omega) (by decide) (by decide) (by decide) (by decide)
        have b3 : IM (si (si (si A 133 (mi m 86 70).toNat sort) 134 (mi m 86 70).toNat k) 135 (mi m 86 70).toNat v) := b2.oneA (by decide) (by decide) (by decide) (by decide) (fun j hj => by omega) (by decide)
        have b4 : IM (si (si (si (si A 133 (mi m 86 70).toNat sort) 134 (mi m 86 70).toNat k) 135 (mi m 86 70).toNat v) 136 (2 * mi m 86 70).toNat p1) := b3.cell (-1) 19 (fun q hq e _ => by revert q; decide) (by decide) (by omega) (by omega) (by decide) (by decide) (by decide) (by decide)
        have b5 : IM (si (si (si (si (si A 133 (mi m 86 70).toNat sort) 134 (mi m 86 70).toNat k) 135 (mi m 86 70).toNat v) 136 (2 * mi m 86 70).toNat p1) 136 ((2 * mi m 86 70) + 1).toNat p2) := b4.cell (-1) 19 (fun q hq e _ => by revert q; decide) (by decide) (by omega) (by omega) (by decide) (by decide) (by decide) (by decide)
        exact b5.scal 0 20 (by decide) (by decide) (by omega) (by omega) (by decide) (by decide) (by decide) (by decide)
      have zN : N.2 = m.2 := by rw [← hN]; exact zA
      have wN0 : ∀ c j, c ≠ 133 → c ≠ 134 → c ≠ 135 → c ≠ 136 → ¬ (c = 86 ∧ j = 70) → mi N c j = mi A c j := fun c j q1 q2 q3 q4 q5 => by
        rw [← hN, mi_si_ne _ _ q5, mi_si_ne _ _ (fun z => q4 z.1), mi_si_ne _ _ (fun z => q4 z.1), mi_si_ne _ _ (fun z => q3 z.1), mi_si_ne _ _ (fun z => q2 z.1), mi_si_ne _ _ (fun z => q1 z.1)]
      have w133 : ∀ j, mi N 133 j = (if j = (mi m 86 70).toNat then sort else mi A 133 j) ∧ mi N 134 j = (if j = (mi m 86 70).toNat then k else mi A 134 j) ∧ mi N 135 j = (if j = (mi m 86 70).toNat then v else mi A 135 j) := fun j => by
        rw [← hN]
        by_cases q : j = (mi m 86 70).toNat
        · rw [if_pos q, if_pos q, if_pos q, q]
          refine ⟨?_, ?_, ?_⟩
          · rw [mi_si_ne _ _ (by omega), mi_si_ne _ _ (by omega), mi_si_ne _ _ (by omega), mi_si_ne _ _ (by omega), mi_si_ne _ _ (by omega), mi_si_same _ _ _ (by omega) (by omega)]
          · rw [mi_si_ne _ _ (by omega), mi_si_ne _ _ (by omega), mi_si_ne _ _ (by omega), mi_si_ne _ _ (by omega), mi_si_same _ _ _ (by omega) (by omega)]
          · rw [mi_si_ne _ _ (by omega), mi_si_ne _ _ (by omega), mi_si_ne _ _ (by omega), mi_si_same _ _ _ (by omega) (by omega)]
        · rw [if_neg q, if_neg q, if_neg q]
          refine ⟨?_, ?_, ?_⟩ <;> rw [mi_si_ne _ _ (by omega), mi_si_ne _ _ (by omega), mi_si_ne _ _ (by omega), mi_si_ne _ _ (by omega), mi_si_ne _ _ (by omega), mi_si_ne _ _ (by omega)]
      have w136 : ∀ j, mi N 136 j = if j = ((2 * mi m 86 70) + 1).toNat then p2 else if j = (2 * mi m 86 70).toNat then p1 else mi A 136 j := fun j => by
        rw [← hN, mi_si_ne _ _ (by omega)]
        by_cases q : j = ((2 * mi m 86 70) + 1).toNat
        · rw [if_pos q, q, mi_si_same _ _ _ (by omega) (by omega)]
        · rw [if_neg q, mi_si_ne _ _ (by omega)]
          by_cases q2 : j = (2 * mi m 86 70).toNat
          · rw [if_pos q2, q2, mi_si_same _ _ _ (by omega) (by omega)]
          · rw [if_neg q2, mi_si_ne _ _ (by omega), mi_si_ne _ _ (by omega), mi_si_ne _ _ (by omega), mi_si_ne _ _ (by omega)]
      have w70 : mi N 86 70 = mi m 86 70 + 1 := by rw [← hN, mi_si_same _ _ _ (by omega) (by omega)]
      clear hN
      have w : ∀ c j, ¬ (7 ≤ c ∧ c ≤ 10) → ¬ (c = 6 ∧ j = 5) → ¬ (133 ≤ c ∧ c ≤ 136) → ¬ (c = 86 ∧ j = 70) → mi N c j = mi m c j := fun c j q1 q2 q3 q4 => (wN0 c j (by omega) (by omega) (by omega) (by omega) q4).trans (wA c j (by omega) (by omega) (by omega) (by omega) q2)
      have wb : ∀ c j, 133 ≤ c → c ≤ 136 → mi A c j = mi m c j := fun c j q1 q2 => wA c j (by omega) (by omega) (by omega) (by omega) (by omega)
      have w10 : ∀ j, mi N 10 j = if j = (mi m 86 70).toNat then Z else mi m 10 j := fun j => (wN0 10 j (by omega) (by omega) (by omega) (by omega) (by omega)).trans (w7 j).2.2.2
      have RPm := h.1.1.2
      have k6 : K6 N := by
        have a := h.k6
        unfold K6 at a ⊢
        rw [w70, wN0 6 5 (by decide) (by decide) (by decide) (by decide) (by decide), w6]
        refine ⟨rfl, fun p q0 q1 => ?_, fun p q q0 q1 q2 q3 => ?_⟩
        · rw [wN0 7 _ (by omega) (by omega) (by omega) (by omega) (by omega), wN0 8 _ (by omega) (by omega) (by omega) (by omega) (by omega), wN0 9 _ (by omega) (by omega) (by omega) (by omega) (by omega), (w7 _).1, (w7 _).2.1, (w7 _).2.2.1, (w133 _).1, (w133 _).2.1, (w133 _).2.2, w10]
          by_cases y : p = mi m 86 70
          · rw [y, if_pos rfl, if_pos rfl, if_pos rfl, if_pos rfl, if_pos rfl, if_pos rfl, if_pos rfl]
            refine ⟨⟨rfl, rfl, rfl⟩, ?_⟩
            rw [w136, if_neg (by omega), if_pos rfl, w136, if_pos rfl, ← hZ, a1, a2]
            unfold alG
            have t : ∀ x : Int, x < mi m 86 70 → (if 0 ≤ x ∧ x < 20 then mi N 10 x.toNat else 0) = if 0 ≤ x ∧ x < 20 then mi m 10 x.toNat else 0 := fun x hx => by
              by_cases z : 0 ≤ x ∧ x < 20
              · rw [if_pos z, if_pos z, w10, if_neg (by omega)]
              · rw [if_neg z, if_neg z]
            rw [t p1 g1.2, t p2 g2.2]
          · rw [if_neg (by omega), if_neg (by omega), if_neg (by omega), if_neg (by omega), if_neg (by omega), if_neg (by omega), if_neg (by omega), wb _ _ (by omega) (by omega), wb _ _ (by omega) (by omega), wb _ _ (by omega) (by omega)]
            have b := a.2.1 p q0 (by omega)
            refine ⟨b.1, ?_⟩
            have r := RPm p q0 (by omega)
            rw [w136, if_neg (by omega), if_neg (by omega), w136, if_neg (by omega), if_neg (by omega), wb _ _ (by omega) (by omega), wb _ _ (by omega) (by omega), b.2]
            unfold alG
            have t : ∀ x : Int, x < p → (if 0 ≤ x ∧ x < 20 then mi N 10 x.toNat else 0) = if 0 ≤ x ∧ x < 20 then mi m 10 x.toNat else 0 := fun x hx => by
              by_cases z : 0 ≤ x ∧ x < 20
              · rw [if_pos z, if_pos z, w10, if_neg (by omega)]
              · rw [if_neg z, if_neg z]
            rw [t _ r.2.2.1, t _ r.2.2.2]
        · rw [w 11 _ (by omega) (by omega) (by omega) (by omega), w 137 _ (by omega) (by omega) (by omega) (by omega)]
          rcases a.2.2 p q q0 q1 q2 q3 with z | ⟨z1, z2, z3, z4⟩
          · exact Or.inl z
          · exact Or.inr ⟨by omega, z2, z3, fun i hi hb => by have := z4 i hi hb; omega⟩
      have P4 : N.2.2 = m.2.2 := congrArg (fun q => q.2) zN
      have eml : ∀ c j, ml N c j = ml m c j := fun c j => congrArg (fun q : (Nat → Nat → Int) × _ => (zl (q.1 c j)).toInt) zN
      have v' : QV m N := QV.mk0 P4 (fun c j hc => w c j (fun z => hc (by unfold NV; omega)) (fun z => hc (by unfold NV; omega)) (fun z => hc (by unfold NV; omega)) (fun z => hc (by unfold NV; omega)))
      have ra : RA N := by
        obtain ⟨⟨r1, r2, r3⟩, r4⟩ := h.1.1
        refine ⟨⟨r1.ext (v'.st h.s) iN (fun o ho j => ?_) (fun x hx => ?_), ?_, ?_⟩, ?_⟩
        · have := (by decide : ∀ c ∈ riL, 88 ≤ c ∧ c ≤ 114) o ho
          exact w o j (by omega) (by omega) (by omega) (by omega)
        · have := (by decide : ∀ k ∈ riK, k ≠ 70) x hx
          exact w 86 x (by omega) (by omega) (by omega) (by omega)
        · intro b s
          rw [w 86 1 (by omega) (by omega) (by omega) (by omega), w 88 _ (by omega) (by omega) (by omega) (by omega)]
          exact r2 b s
        · intro j
          rw [w 123 _ (by omega) (by omega) (by omega) (by omega), w 124 _ (by omega) (by omega) (by omega) (by omega)]
          exact r3 j
        · intro p q0 q1
          rw [w70] at q1
          rw [w 86 1 (by omega) (by omega) (by omega) (by omega), w 86 21 (by omega) (by omega) (by omega) (by omega), (w133 _).1, (w133 _).2.1, (w133 _).2.2]
          by_cases y : p = mi m 86 70
          · rw [y, if_pos rfl, if_pos rfl, if_pos rfl, w136, if_neg (by omega), if_pos rfl, w136, if_pos rfl]
            rw [e16, e17] at c1
            refine ⟨fun z => ?_, fun z => ?_, g1.2, g2.2⟩
            · omega
            · omega
          · rw [if_neg (by omega), if_neg (by omega), if_neg (by omega), w136, if_neg (by omega), if_neg (by omega), w136, if_neg (by omega), if_neg (by omega), wb _ _ (by omega) (by omega), wb _ _ (by omega) (by omega), wb _ _ (by omega) (by omega), wb _ _ (by omega) (by omega), wb _ _ (by omega) (by omega)]
            exact r4 p q0 (by omega)
      exact h.qv v' ra (fun c j hc => w c j (by omega) (by omega) (by omega) (by omega)) (h.k4.fr (fun c j hc => w c j (by omega) (by omega) (by omega) (by omega))) (h.k5.fr (fun c j hc => w c j (by omega) (by omega) (by omega) (by omega))) k6 (h.k7.fr (fun c j hc => w c j (by omega) (by omega) (by omega) (by omega)) (fun c j _ => eml c j)) (h.k8.fr (fun c j hc => w c j (by omega) (by omega) (by omega) (by omega))) (h.k9.fr (fun c j hc => w c j (by omega) (by omega) (by omega) (by omega))) (h.ka.fr (fun c j hc => w c j (by omega) (by omega) (by omega) (by omega)))
  · refine keyP_no h (v := -1) ?_ ?_
    · unfold FX11_paper
      by_cases q1 : ((sort = 0 ∧ 0 ≤ k ∧ k ≤ 2 ∧ 0 ≤ v ∧ v ≤ 99999) ∨ (¬ (sort = 0 ∧ 0 ≤ k ∧ k ≤ 2) ∧ 10 ≤ k ∧ k - 10 < mi m 0 16 ∧ (sort = 0 ∨ (sort = 1 ∧ 0 ≤ v ∧ v / 100 < mi m 0 17 ∧ 0 < v % 100))))
      · rw [if_pos q1]
        have y := (cl m rfl rfl).mpr q1
        by_cases q2 : on < 0
        · rw [if_pos q2]
        · rw [if_neg q2]
          by_cases q3 : on / 100 = 99 ∨ (0 ≤ on / 100 ∧ on / 100 < mi m 6 5)
          · rw [if_pos q3]
            by_cases q4 : on % 100 = 99 ∨ (0 ≤ on % 100 ∧ on % 100 < mi m 6 5)
            · exact absurd ⟨y.1, ⟨by omega, by omega⟩, y.2, (gr m rfl).mpr ⟨q3, q4⟩⟩ c
            · rw [if_neg q4]
          · rw [if_neg q3]
      · rw [if_neg q1]
    · show papR m sort k v on (hd m) = _
      unfold papR
      rw [if_neg c]
theorem ag_paper {G : QW} {m : AM} {s k v o : Int} (h : Inv m) (hs1 : -2147483648 ≤ s) (hs2 : s < 2147483648) (hk1 : -2147483648 ≤ k) (hk2 : k < 2147483648) (hv1 : -2147483648 ≤ v) (hv2 : v < 2147483648) (ho1 : -2147483648 ≤ o) (ho2 : o < 2147483648) : AG G mX11_paper mX12_paper 2 2 0 0 [vI s, vI k, vI v, vI o] m := by
  have hd : ∀ N, Decidable ((0 ≤ s ∧ s ≤ 1) ∧ (0 ≤ o ∧ o / 100 ≤ 99) ∧ clP N s k v ∧ grP N o) := fun N => Classical.propDecidable _
  exact AG.key (g := fun N => papR N s k v o (hd N)) (ct_X11_paper h.s h.i hs1 hs2 hk1 hk2 hv1 hv2 ho1 ho2) (fun a b => ct_X12_paper (hd _) a b hs1 hs2 hk1 hk2 hv1 hv2 ho1 ho2) (key_paper h s k v o ⟨hv1, hv2⟩ hd)

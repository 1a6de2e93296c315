/-- what shows() needs of box b and its line l -/
theorem shows_ok {m N : AM} {b l : Int} (h : QR m) (hb : 0 ≤ b ∧ b < mi m 0 16) (hl : 0 ≤ l ∧ l < mi m (pg m b) 6) (hp : PSp m N) : AgB m (wN m) b ∧ (wN m).okL b l ∧ (l ≤ 11 ∧ b ≤ 5) ∧ (ObA N (bx m b) 1 fsBox ∧ mr N (bx m b) 4 = some (pg m b) ∧ ObA N (pg m b) 5 fsProg) ∧ (∀ c j, 145 ≤ c ∨ c = 62 ∨ c = 63 ∨ c = 64 ∨ c = 65 ∨ c = 66 ∨ c = 67 → mi N c j = mi m c j) ∧ AgL m (pg m b) (wN m) b l := by
  have hbW : b < (wN m).nb := by rw [← show mi m 0 16 = (wN m).nb from h.2.1.1]; exact hb.2
  have hB := (h.2.1.2 b hb.1 hbW).1
  have hW := h.wok.2 b hb.1 hbW
  have h16 := h.i.s 0 16 0 6 (by decide)
  have hl2 : l < (wN m).nl b := by rw [← hB.2.2.2.2.2.2.1]; exact hl.2
  have hn := hW.1
  refine ⟨hB, hW.2.1 l hl.1 hl2, ⟨by omega, by omega⟩, ⟨hp.ob hB.1.2.1, ?_, hp.ob hB.1.2.2.2⟩, fun c j hc => hp.cel (by omega), hB.2.2.2.2.2.2.2 l hl.1 hl2⟩
  rw [show mr N = mr m from congrArg (fun q => q.1) hp.1]
  exact hB.1.2.2.1
theorem name_sp {m N : AM} {k b n v : Int} {w : Nat} (hB : AgB m (wN m) b) (h4 : K4 m) (hp : PSp m N) (hk : 0 ≤ k ∧ k ≤ 1) (hw : w < 6) (hv : 0 ≤ v ∧ v < 2 ^ 20) (h1 : w = 1 → v ≤ 7) (h3 : w = 3 → v ≤ 2) : FX8_setName N (bx m b) n k (wdC (w, v)) = FX8_set N n (rdE m k b w v).1 (rdE m k b w v).2 := by
  have ew := wd_what (w := w) (v := v) (by omega) hv.1 hv.2
  have en := wd_number (w := w) (v := v) (by omega) hv.1 hv.2
  have hg : ∀ r, FX1_greatestFor N (bx m b) r = FX1_greatestFor m (bx m b) r := fun r => by
    unfold FX1_greatestFor
    rw [hp.cel (by have := hB.2.1.1; omega)]
  unfold FX8_setName FX8_setBits rdE
  rw [ew, en, hg, hg]
  have hw2 : w = 0 ∨ w = 1 ∨ w = 2 ∨ w = 3 ∨ w = 4 ∨ w = 5 := by omega
  rcases hw2 with rfl | rfl | rfl | rfl | rfl | rfl
  · simp
  · have e := hB.2.2.2.2.2.1 v hv.1 (h1 rfl)
    rw [e]
    simp
    rfl
  · have e : FX1_greatestFor m (bx m b) 10 = 32767 := by
      unfold FX1_greatestFor
      rw [if_pos (by decide)]
      decide
    rw [e]
    simp
  · have q := h4 ((k * 3) + v).toNat (by have := h3 rfl; omega)
    rw [hp.cel (c := 13) (by omega), hp.cel (c := 14) (by omega), q.1, q.2, show (k * 3) + v = (3 * k) + v by omega]
    simp
  · simp
  · simp

set_option maxRecDepth 20000 in
set_option maxHeartbeats 4000000 in
theorem lp_shows_f {G : QW} {m N : AM} {k b l n j : Int} {Rp : Option Vl → AM → Prop} (hS : St N) (ob3 : ObA N (pg m b) 5 fsProg) (hl : 0 ≤ l ∧ l ≤ 11) (hj : -2147483648 ≤ j ∧ j < 2147483648) (ho : mi N 12 4 = 1) (hfin : Rp (some (vI 0)) N) : qJ G mX8_shows { frames := 4, cells := 0, slots := 0, locals := 60 * 4 } (qF G Rp 0 0) 23 [(0, vR 12), (1, vI k), (2, vR (bx m b)), (3, vI l), (4, vR (pg m b)), (5, vI n), (6, vI j)] [] N 0 0 := by
  refine j_iload rfl rfl ?_
  refine j_aload rfl rfl ?_
  refine j_getR (q := ((pg m b) + 4)) rfl f_X8_68 rfl ob3.1 ob3.2.1 (ob3.q 3 4 13 12 (by decide)).1 ?_
  refine j_iload_n rfl rfl ?_
  refine j_iald (n := 12) rfl (ob3.q 3 4 13 12 (by decide)).2.1 (ob3.q 3 4 13 12 (by decide)).2.2.1 (ob3.q 3 4 13 12 (by decide)).2.2.2 (by omega) (by omega) (by decide) ?_
  have u31_1 := mi_rng N ((pg m b) + 4) l.toNat
  refine j_icmp_ge (tgt := 141) rfl (by decide) (by omega) (by omega) (by omega) (by omega) (fun hb32_1 => ?_) (fun hb32_1 => ?_)
  · skip
    refine j_aload_n rfl rfl ?_
    refine j_getI rfl f_X8_61 rfl (hS.lt (by decide)) (hS.k (by decide) (by decide)) ?_
    have u142_1 := mi_rng N 12 4
    refine j_if_ne (tgt := 152) rfl (by decide) (by omega) (by omega) (fun hb145_1 => ?_) (fun hb145_1 => ?_)
    · skip
      refine j_iconst rfl ?_
      refine j_zret rfl rfl (by decide) ?_ rfl (Nat.le_refl _)
      exact hfin
    · skip
      refine j_iconst rfl ?_
      refine j_goto (tgt := 153) rfl (by decide) ?_
      refine j_zret rfl rfl (by decide) ?_ rfl (Nat.le_refl _)
      exfalso; omega
  · skip
    refine j_aload_n rfl rfl ?_
    refine j_getI rfl f_X8_61 rfl (hS.lt (by decide)) (hS.k (by decide) (by decide)) ?_
    have u36_1 := mi_rng N 12 4
    refine j_if_ne (tgt := 141) rfl (by decide) (by omega) (by omega) (fun hb39_1 => ?_) (fun hb39_1 => ?_)
    · skip
      refine j_aload_n rfl rfl ?_
      refine j_getI rfl f_X8_61 rfl (hS.lt (by decide)) (hS.k (by decide) (by decide)) ?_
      have u142_2 := mi_rng N 12 4
      refine j_if_ne (tgt := 152) rfl (by decide) (by omega) (by omega) (fun hb145_2 => ?_) (fun hb145_2 => ?_)
      · skip
        refine j_iconst rfl ?_
        refine j_zret rfl rfl (by decide) ?_ rfl (Nat.le_refl _)
        exact hfin
      · skip
        refine j_iconst rfl ?_
        refine j_goto (tgt := 153) rfl (by decide) ?_
        refine j_zret rfl rfl (by decide) ?_ rfl (Nat.le_refl _)
        exfalso; omega
    · skip
      exfalso; omega

set_option maxRecDepth 20000 in
set_option maxHeartbeats 4000000 in
theorem lp_shows {G : QW} {m : AM} {k b l : Int} {E : Int × (Nat → Int) × (Nat → Int)} (h : QR m) (h4 : K4 m) (hk : 0 ≤ k ∧ k ≤ 1) (hb : 0 ≤ b ∧ b < mi m 0 16) (hl : 0 ≤ l ∧ l < mi m (pg m b) 6) : ∀ (c : Nat) (j n : Int) (N : AM), PSp m N → mi N 12 4 = 0 → j + c = ((wN m).at3 b l).2.2 → ((wN m).at3 b l).1 ≤ j → 0 ≤ n → n + c ≤ 160 → sWF ((wN m).cd b) c j n → (∀ i : Nat, (i : Int) < n → (-1000000000 ≤ ml N 15 i ∧ ml N 15 i ≤ 1000000000) ∧ (-1000000000 ≤ ml N 16 i ∧ ml N 16 i ≤ 1000000000) ∧ ml N 15 i ≤ ml N 16 i) → sEE ((wN m).cd b) (rdE m k b) c j n (ml N 15) (ml N 16) = E → qJ G mX8_shows { frames := 4, cells := 0, slots := 0, locals := 60 * 4 } (qF G (fun r N2 => PSp m N2 ∧ (E.1 = 0 → r = some (vI 0)) ∧ (E.1 ≠ 0 → r = some (vI 1) ∧ (ml N2 15 0 = E.2.1 0 ∧ ml N2 16 0 = E.2.2 0) ∧ (-1000000000 ≤ E.2.1 0 ∧ E.2.1 0 ≤ 1000000000) ∧ (-1000000000 ≤ E.2.2 0 ∧ E.2.2 0 ≤ 1000000000))) 0 0) 23 [(0, vR 12), (1, vI k), (2, vR (bx m b)), (3, vI l), (4, vR (pg m b)), (5, vI n), (6, vI j)] [] N 0 0 := by
  intro c
  induction c with
  | zero =>
    intro j n N hp ho hj hj0 hn hnc hwf hst hE
    obtain ⟨hB, hL, ⟨hl11, hb5⟩, ⟨ob1, ob2, ob3⟩, hcel, hA⟩ := shows_ok h hb hl hp
    have hS := hp.st h.s
    have eto : mi N ((pg m b) + 4) l.toNat = ((wN m).at3 b l).2.2 := (hp.cel (by have := hB.2.1.2; omega)).trans hA.2.2.1.2.2
    have h160 := hL.1.2.2.2
    have e : (1, ml N 15, ml N 16) = E := hE
    subst e
    have hn1 : n = 1 := hwf
    have z0 := hst 0 (by omega)
    have done : PSp m N ∧ (((1 : Int), ml N 15, ml N 16).1 = 0 → (some (vI 1) : Option Vl) = some (vI 0)) ∧ (((1 : Int), ml N 15, ml N 16).1 ≠ 0 → (some (vI 1) : Option Vl) = some (vI 1) ∧ (ml N 15 0 = ml N 15 0 ∧ ml N 16 0 = ml N 16 0) ∧ (-1000000000 ≤ ml N 15 0 ∧ ml N 15 0 ≤ 1000000000) ∧ (-1000000000 ≤ ml N 16 0 ∧ ml N 16 0 ≤ 1000000000)) := ⟨hp, fun z => absurd (show (1 : Int) = 0 from z) (by decide), fun _ => ⟨rfl, ⟨rfl, rfl⟩, z0.1, z0.2.1⟩⟩
    refine j_iload rfl rfl ?_
    refine j_aload rfl rfl ?_
    refine j_getR (q := ((pg m b) + 4)) rfl f_X8_68 rfl ob3.1 ob3.2.1 (ob3.q 3 4 13 12 (by decide)).1 ?_
    refine j_iload_n rfl rfl ?_
    refine j_iald (n := 12) rfl (ob3.q 3 4 13 12 (by decide)).2.1 (ob3.q 3 4 13 12 (by decide)).2.2.1 (ob3.q 3 4 13 12 (by decide)).2.2.2 (by omega) (by omega) (by decide) ?_
    have u31_1 := mi_rng N ((pg m b) + 4) l.toNat
    rw [eto]
    refine j_icmp_ge (tgt := 141) rfl (by decide) (by omega) (by omega) (by omega) (by omega) (fun hb32_1 => ?_) (fun hb32_1 => ?_)
    · skip
      refine j_aload_n rfl rfl ?_
      refine j_getI rfl f_X8_61 rfl (hS.lt (by decide)) (hS.k (by decide) (by decide)) ?_
      have u142_1 := mi_rng N 12 4
      refine j_if_ne (tgt := 152) rfl (by decide) (by omega) (by omega) (fun hb145_1 => ?_) (fun hb145_1 => ?_)
      · skip
        refine j_iconst rfl ?_
        refine j_zret rfl rfl (by decide) ?_ rfl (Nat.le_refl _)
        exfalso; omega
      · skip
        refine j_iconst rfl ?_
        refine j_goto (tgt := 153) rfl (by decide) ?_
        refine j_zret rfl rfl (by decide) ?_ rfl (Nat.le_refl _)
        exact done
    · skip
      exfalso; omega
  | succ c ih =>
    intro j n N hp ho hj hj0 hn hnc hwf hst hE
    obtain ⟨hB, hL, ⟨hl11, hb5⟩, ⟨ob1, ob2, ob3⟩, hcel, hA⟩ := shows_ok h hb hl hp
    have hS := hp.st h.s
    have hI := hp.im h.i
    have eto : mi N ((pg m b) + 4) l.toNat = ((wN m).at3 b l).2.2 := (hp.cel (by have := hB.2.1.2; omega)).trans hA.2.2.1.2.2
    have h160 := hL.1.2.2.2
    have h000 := hL.1.1
    obtain ⟨w, v, hcd⟩ : ∃ w v, (wN m).cd b j = (w, v) := ⟨_, _, rfl⟩
    have hw1 := hL.2.2.2.2 j hj0 (by omega)
    have ewd0 := hA.2.2.2.2 j hj0 (by omega)
    rw [hcd] at hw1 ewd0
    obtain ⟨hw2, hv0, hv1⟩ := hw1
    have ewd : (mi N ((pg m b) + 1) j.toNat) = wdC (w, v) := (hp.cel (by have := hB.2.1.2; omega)).trans ewd0
    have hwdr := mi_rng N ((pg m b) + 1) j.toNat
    rw [ewd] at hwdr
    have hwt : z_ishr (wdC (w, v)) 20 = (w : Int) := wd_what hw2 hv0 hv1
    have hnb : z_iand (wdC (w, v)) 1048575 = v := wd_number hw2 hv0 hv1
    have hbW : b < (wN m).nb := by rw [← show mi m 0 16 = (wN m).nb from h.2.1.1]; exact hb.2
    have hmo := (h.wok.2 b hb.1 hbW).2.2.2
    have hgx : ∀ r, 0 ≤ r → r ≤ 7 → 0 ≤ FX1_greatestFor N (bx m b) r ∧ FX1_greatestFor N (bx m b) r ≤ 1048575 := fun r r0 r1 => by
      have q := hB.2.2.2.2.2.1 r r0 r1
      have q2 := hmo r r0 r1
      have q3 : FX1_greatestFor N (bx m b) r = FX1_greatestFor m (bx m b) r := by
        unfold FX1_greatestFor
        rw [hp.cel (by have := hB.2.1.1; omega)]
      rw [q3, q]
      omega
    have hg10 : 0 ≤ FX1_greatestFor N (bx m b) 10 ∧ FX1_greatestFor N (bx m b) 10 ≤ 1048575 := by
      unfold FX1_greatestFor
      rw [if_pos (by decide)]
      decide
    simp only [sWF, hcd] at hwf
    simp only [sEE, hcd] at hE
    obtain ⟨-, hW⟩ := hwf
    have W0 : (w < 6 ∧ (w = 0 → 0 ≤ v ∧ v ≤ 99999) ∧ (w = 1 → 0 ≤ v ∧ v ≤ 7) ∧ (w = 2 → 0 ≤ v ∧ v ≤ 3) ∧ (w = 3 → 0 ≤ v ∧ v ≤ 2)) ∨ (w = 6 ∧ 1 ≤ n) ∨ (7 ≤ w ∧ 2 ≤ n) := by
      rcases hW with ⟨h, g0, g1, g2, g3, -⟩ | ⟨h, g, -⟩ | ⟨h, h2, g, -⟩
      · exact Or.inl ⟨h, g0, g1, g2, g3⟩
      · exact Or.inr (Or.inl ⟨h, g⟩)
      · exact Or.inr (Or.inr ⟨h, g⟩)
    have leaf : w < 6 → qJ G mX8_shows { frames := 4, cells := 0, slots := 0, locals := 60 * 4 } (qF G (fun r N2 => PSp m N2 ∧ (E.1 = 0 → r = some (vI 0)) ∧ (E.1 ≠ 0 → r = some (vI 1) ∧ (ml N2 15 0 = E.2.1 0 ∧ ml N2 16 0 = E.2.2 0) ∧ (-1000000000 ≤ E.2.1 0 ∧ E.2.1 0 ≤ 1000000000) ∧ (-1000000000 ≤ E.2.2 0 ∧ E.2.2 0 ≤ 1000000000))) 0 0) 23 [(0, vR 12), (1, vI k), (2, vR (bx m b)), (3, vI l), (4, vR (pg m b)), (5, vI (n + 1)), (6, vI (j + 1))] [] (FX8_set N n (rdE m k b w v).1 (rdE m k b w v).2) 0 0 := by
      intro h6
      rcases hW with ⟨hw, g0, g1, g2, g3, hwf2⟩ | ⟨hw, -⟩ | ⟨hw, -⟩
      · have rr := rdE_rng (w := w) (v := v) h.i k b (fun s s0 s1 => h.1.1.2.1 b s hb.1 hbW s0 s1) g0 g1 (fun q => h.1.1.2.2 ((3 * k) + v) (by have := g3 q; omega) (by have := g3 q; omega))
        obtain ⟨q1, q2, q3, q4, q5⟩ := set_sp (at0 := n) ho rr.2.2 ⟨by omega, by omega⟩ ⟨by omega, by omega⟩
        have ck : (ckE (rdE m k b w v).1 (rdE m k b w v).2).1 ≠ 0 := by
          unfold ckE
          rw [if_neg (by omega)]
          exact (show (1 : Int) ≠ 0 by decide)
        refine ih (j + 1) (n + 1) _ (hp.trans q1) (q3 ck) (by omega) (by omega) (by omega) (by omega) hwf2 (fun i hi => ?_) ?_
        · rw [q4, q5]
          unfold sUp
          by_cases e : i = n.toNat
          · rw [if_pos e, if_pos e]; exact rr
          · rw [if_neg e, if_neg e]; exact hst i (by omega)
        · rw [q4, q5]
          rw [if_pos hw] at hE
          exact hE
      · exfalso; omega
      · exfalso; omega
    have negd : w = 6 → qJ G mX8_shows { frames := 4, cells := 0, slots := 0, locals := 60 * 4 } (qF G (fun r N2 => PSp m N2 ∧ (E.1 = 0 → r = some (vI 0)) ∧ (E.1 ≠ 0 → r = some (vI 1) ∧ (ml N2 15 0 = E.2.1 0 ∧ ml N2 16 0 = E.2.2 0) ∧ (-1000000000 ≤ E.2.1 0 ∧ E.2.1 0 ≤ 1000000000) ∧ (-1000000000 ≤ E.2.2 0 ∧ E.2.2 0 ≤ 1000000000))) 0 0) 23 [(0, vR 12), (1, vI k), (2, vR (bx m b)), (3, vI l), (4, vR (pg m b)), (5, vI n), (6, vI (j + 1))] [] (FX8_set N (n - 1) (-(ml N 16 (n - 1).toNat)) (-(ml N 15 (n - 1).toNat))) 0 0 := by
      intro h6
      rcases hW with ⟨hw, -⟩ | ⟨hw, hn1, hwf2⟩ | ⟨hw, -⟩
      · exfalso; omega
      · have z := hst (n - 1).toNat (by omega)
        obtain ⟨q1, q2, q3, q4, q5⟩ := set_sp (at0 := n - 1) ho (l := -ml N 16 (n - 1).toNat) (g := -ml N 15 (n - 1).toNat) (by omega) ⟨by omega, by omega⟩ ⟨by omega, by omega⟩
        have ck : (ckE (-ml N 16 (n - 1).toNat) (-ml N 15 (n - 1).toNat)).1 ≠ 0 := by
          unfold ckE
          rw [if_neg (by omega)]
          exact (show (1 : Int) ≠ 0 by decide)
        refine ih (j + 1) n _ (hp.trans q1) (q3 ck) (by omega) (by omega) (by omega) (by omega) hwf2 (fun i hi => ?_) ?_
        · rw [q4, q5]
          unfold sUp
          by_cases e : i = (n - 1).toNat
          · rw [if_pos e, if_pos e]; omega
          · rw [if_neg e, if_neg e]; exact hst i (by omega)
        · rw [q4, q5]
          rw [if_neg (by omega), if_pos hw] at hE
          exact hE
      · exfalso; omega
    have joined : 7 ≤ w → qJ G mX8_shows { frames := 4, cells := 0, slots := 0, locals := 60 * 4 } (qF G (fun r N2 => PSp m N2 ∧ (E.1 = 0 → r = some (vI 0)) ∧ (E.1 ≠ 0 → r = some (vI 1) ∧ (ml N2 15 0 = E.2.1 0 ∧ ml N2 16 0 = E.2.2 0) ∧ (-1000000000 ≤ E.2.1 0 ∧ E.2.1 0 ≤ 1000000000) ∧ (-1000000000 ≤ E.2.2 0 ∧ E.2.2 0 ≤ 1000000000))) 0 0) 23 [(0, vR 12), (1, vI k), (2, vR (bx m b)), (3, vI l), (4, vR (pg m b)), (5, vI (n + (-1))), (6, vI (j + 1))] [] (FX8_join N (w : Int) (n - 2)) 0 0 := by
      intro h7
      rcases hW with ⟨hw, -⟩ | ⟨hw, -⟩ | ⟨hw, hw2', hn2, hwf2⟩
      · exfalso; omega
      · exfalso; omega
      · have z1 := hst (n - 2).toNat (by omega)
        have z2 := hst (n - 1).toNat (by omega)
        have en2 : (n - 2) + 1 = n - 1 := by omega
        have js := jn_sp (m := N) (w := w) (at0 := n - 2) ⟨hw, hw2'⟩ ho z1.1 z1.2.1 (by rw [en2]; exact z2.1) (by rw [en2]; exact z2.2.1) z1.2.2 (by rw [en2]; exact z2.2.2)
        rw [en2] at js
        rw [if_neg (by omega), if_neg (by omega)] at hE
        by_cases c0 : (sJE w (ml N 15 (n - 2).toNat) (ml N 16 (n - 2).toNat) (ml N 15 (n - 1).toNat) (ml N 16 (n - 1).toNat)).1 = 0
        · rw [if_pos c0] at hE
          have hp2 := hp.trans js.1
          have ok2 := shows_ok h hb hl hp2
          refine lp_shows_f (hp2.st h.s) ok2.2.2.2.1.2.2 ⟨hl.1, hl11⟩ (by omega) (js.2.1 c0) ?_
          rw [← hE]
          exact ⟨hp2, fun _ => rfl, fun z => absurd rfl z⟩
        · rw [if_neg c0] at hE
          obtain ⟨q3, q4, q5⟩ := js.2.2 c0
          have rr := sJE_r c0
          have rl := sJE_le z1.2.2 z2.2.2 c0
          rw [show n + (-1) = n - 1 by omega]
          refine ih (j + 1) (n - 1) _ (hp.trans js.1) q3 (by omega) (by omega) (by omega) (by omega) hwf2 (fun i hi => ?_) ?_
          · rw [q4, q5]
            unfold sUp
            by_cases e : i = (n - 2).toNat
            · rw [if_pos e, if_pos e]; exact ⟨rr.1, rr.2, rl⟩
            · rw [if_neg e, if_neg e]; exact hst i (by omega)
          · rw [q4, q5]
            exact hE
    clear hE ih hW
    refine j_iload rfl rfl ?_
    refine j_aload rfl rfl ?_
    refine j_getR (q := ((pg m b) + 4)) rfl f_X8_68 rfl ob3.1 ob3.2.1 (ob3.q 3 4 13 12 (by decide)).1 ?_
    refine j_iload_n rfl rfl ?_
    refine j_iald (n := 12) rfl (ob3.q 3 4 13 12 (by decide)).2.1 (ob3.q 3 4 13 12 (by decide)).2.2.1 (ob3.q 3 4 13 12 (by decide)).2.2.2 (by omega) (by omega) (by decide) ?_
    have u31_1 := mi_rng N ((pg m b) + 4) l.toNat
    rw [eto]
    refine j_icmp_ge (tgt := 141) rfl (by decide) (by omega) (by omega) (by omega) (by omega) (fun hb32_1 => ?_) (fun hb32_1 => ?_)
    · skip
      exfalso; omega
    · skip
      refine j_aload_n rfl rfl ?_
      refine j_getI rfl f_X8_61 rfl (hS.lt (by decide)) (hS.k (by decide) (by decide)) ?_
      have u36_1 := mi_rng N 12 4
      refine j_if_ne (tgt := 141) rfl (by decide) (by omega) (by omega) (fun hb39_1 => ?_) (fun hb39_1 => ?_)
      · skip
        exfalso; omega
      · skip
        refine j_aload rfl rfl ?_
        refine j_getR (q := ((pg m b) + 1)) rfl f_X8_71 rfl ob3.1 ob3.2.1 (ob3.q 0 1 13 160 (by decide)).1 ?_
        refine j_iload rfl rfl ?_
        refine j_iald (n := 160) rfl (ob3.q 0 1 13 160 (by decide)).2.1 (ob3.q 0 1 13 160 (by decide)).2.2.1 (ob3.q 0 1 13 160 (by decide)).2.2.2 (by omega) (by omega) (by decide) ?_
        have u49_1 := mi_rng N ((pg m b) + 1) j.toNat
        refine j_bipush rfl (by decide) ?_
        refine j_ishr rfl ?_
        have z52_1 := z_ishr_rng (mi N ((pg m b) + 1) j.toNat) 20
        rw [ewd, hwt]
        refine j_istore rfl (by decide) ?_
        refine j_iload rfl rfl ?_
        refine j_bipush rfl (by decide) ?_
        refine j_icmp_ge (tgt := 84) rfl (by decide) (by omega) (by omega) (by omega) (by omega) (fun hb59_1 => ?_) (fun hb59_1 => ?_)
        · skip
          refine j_iload rfl rfl ?_
          refine j_bipush rfl (by decide) ?_
          refine j_icmp_ne (tgt := 122) rfl (by decide) (by omega) (by omega) (by omega) (by omega) (fun hb88_1 => ?_) (fun hb88_1 => ?_)
          · skip
            refine j_iinc rfl rfl (by decide) ?_
            refine j_aload_n rfl rfl ?_
            refine j_iload rfl rfl ?_
            refine j_iload rfl rfl ?_
            refine j_iconst rfl ?_
            refine j_isub rfl ?_
            rw [show (n + (-1)) - 1 = n - 2 by omega]
            have z1 := hst (n - 2).toNat (by omega)
            have z2 := hst (n - 1).toNat (by omega)
            have en2 : (n - 2) + 1 = n - 1 := by omega
            have hja := z1.1
            have hjb := z1.2.1
            have hjc : -1000000000 ≤ ml N 15 ((n - 2) + 1).toNat ∧ ml N 15 ((n - 2) + 1).toNat ≤ 1000000000 := by rw [en2]; exact z2.1
            have hjd : -1000000000 ≤ ml N 16 ((n - 2) + 1).toNat ∧ ml N 16 ((n - 2) + 1).toNat ≤ 1000000000 := by rw [en2]; exact z2.2.1
            have hjcd : ml N 15 ((n - 2) + 1).toNat ≤ ml N 16 ((n - 2) + 1).toNat := by rw [en2]; exact z2.2.2
            refine j_callV (ci := 8) rfl okX8_join c_X8_82 (ct_X8_join hS hI (by omega) (by omega) (by omega) (by omega) (by omega) (by omega) hja hjb hjc hjd hjcd) rfl rfl (hS.lt (by decide)) (hS.k (by decide) (by decide)) (by decide) rfl (Nat.le_of_ble_eq_true rfl) (by decide) (by decide) ?_
            rintro vq mq ⟨e1, e2⟩
            rw [e1, e2]
            clear e1 e2
            simp only [Option.toList_some, Option.toList_none, List.cons_append, List.nil_append]
            refine j_iinc rfl rfl (by decide) ?_
            refine j_goto (tgt := 23) rfl (by decide) ?_
            refine j_loc (ls' := [(0, vR 12), (1, vI k), (2, vR (bx m b)), (3, vI l), (4, vR (pg m b)), (5, vI (n + (-1))), (6, vI (j + 1))]) rfl ?_
            exact joined (by omega)
          · skip
            refine j_aload_n rfl rfl ?_
            refine j_iload rfl rfl ?_
            refine j_iconst rfl ?_
            refine j_isub rfl ?_
            have z0 := hst (n - 1).toNat (by omega)
            refine j_aload_n rfl rfl ?_
            refine j_getR (q := 16) rfl f_X8_22 rfl (hS.lt (by decide)) (hS.k (by decide) (by decide)) (hS.r (by decide)) ?_
            refine j_iload rfl rfl ?_
            refine j_iconst rfl ?_
            refine j_isub rfl ?_
            refine j_lald (n := 160) rfl (hS.lt (by decide)) (hS.k (by decide) (by decide)) (hS.n (by decide) (by decide)) (by omega) (by omega) (by decide) ?_
            have u104_1 := ml_rng N 16 (n - 1).toNat
            refine j_lneg rfl ?_
            refine j_aload_n rfl rfl ?_
            refine j_getR (q := 15) rfl f_X8_18 rfl (hS.lt (by decide)) (hS.k (by decide) (by decide)) (hS.r (by decide)) ?_
            refine j_iload rfl rfl ?_
            refine j_iconst rfl ?_
            refine j_isub rfl ?_
            refine j_lald (n := 160) rfl (hS.lt (by decide)) (hS.k (by decide) (by decide)) (hS.n (by decide) (by decide)) (by omega) (by omega) (by decide) ?_
            have u114_1 := ml_rng N 15 (n - 1).toNat
            refine j_lneg rfl ?_
            refine j_callV (ci := 8) rfl okX8_set c_X8_78 (ct_X8_set hS hI (by omega) (by omega) (by omega) (by omega) (by omega) (by omega) (by omega) (by omega)) rfl rfl (hS.lt (by decide)) (hS.k (by decide) (by decide)) (by decide) rfl (Nat.le_of_ble_eq_true rfl) (by decide) (by decide) ?_
            rintro vq mq ⟨e1, e2⟩
            rw [e1, e2]
            clear e1 e2
            simp only [Option.toList_some, Option.toList_none, List.cons_append, List.nil_append]
            refine j_goto (tgt := 135) rfl (by decide) ?_
            refine j_iinc rfl rfl (by decide) ?_
            refine j_goto (tgt := 23) rfl (by decide) ?_
            refine j_loc (ls' := [(0, vR 12), (1, vI k), (2, vR (bx m b)), (3, vI l), (4, vR (pg m b)), (5, vI n), (6, vI (j + 1))]) rfl ?_
            exact negd (by omega)
        · skip
          refine j_aload_n rfl rfl ?_
          refine j_iload rfl rfl ?_
          refine j_iload_n rfl rfl ?_
          refine j_aload_n rfl rfl ?_
          refine j_aload rfl rfl ?_
          refine j_getR (q := ((pg m b) + 1)) rfl f_X8_71 rfl ob3.1 ob3.2.1 (ob3.q 0 1 13 160 (by decide)).1 ?_
          refine j_iload rfl rfl ?_
          refine j_iald (n := 160) rfl (ob3.q 0 1 13 160 (by decide)).2.1 (ob3.q 0 1 13 160 (by decide)).2.2.1 (ob3.q 0 1 13 160 (by decide)).2.2.2 (by omega) (by omega) (by decide) ?_
          have u74_1 := mi_rng N ((pg m b) + 1) j.toNat
          rw [ewd]
          refine j_callV (ci := 8) rfl okX8_setName c_X8_74 (ct_X8_setName hS hI (by omega) (by omega) (by omega) (by omega) (by omega) (by omega) ob1 (by omega) (by omega) hk (by rw [hwt, hnb]; omega) (by rw [hwt, hnb]; omega) (by rw [hwt, hnb]; intro q; exact hgx v (by omega) (by omega)) (hg10)) rfl rfl (hS.lt (by decide)) (hS.k (by decide) (by decide)) (by decide) rfl (Nat.le_of_ble_eq_true rfl) (by decide) (by decide) ?_
          rintro vq mq ⟨e1, e2⟩
          rw [name_sp hB h4 hp hk (by omega) ⟨hv0, hv1⟩ (by omega) (by omega)] at e2
          rw [e1, e2]
          clear e1 e2
          simp only [Option.toList_some, Option.toList_none, List.cons_append, List.nil_append]
          refine j_iinc rfl rfl (by decide) ?_
          refine j_goto (tgt := 135) rfl (by decide) ?_
          refine j_iinc rfl rfl (by decide) ?_
          refine j_goto (tgt := 23) rfl (by decide) ?_
          refine j_loc (ls' := [(0, vR 12), (1, vI k), (2, vR (bx m b)), (3, vI l), (4, vR (pg m b)), (5, vI (n + 1)), (6, vI (j + 1))]) rfl ?_
          exact leaf (by omega)

set_option maxRecDepth 20000 in
set_option maxHeartbeats 4000000 in
/-- the ends of what a line of the class gives by spans -/
theorem ct_shows {G : QW} {m : AM} {k b l : Int} (h : QR m) (h4 : K4 m) (hk : 0 ≤ k ∧ k ≤ 1) (hb : 0 ≤ b ∧ b < mi m 0 16) (hl : 0 ≤ l ∧ l < mi m (pg m b) 6) : qM G mX8_shows 4 0 0 [vR 12, vI k, vR (bx m b), vI l] m (fun r N2 => PSp m N2 ∧ r = some (vI (enX m k b l).1) ∧ ((enX m k b l).1 ≠ 0 → (ml N2 15 0 = (enX m k b l).2.1 ∧ ml N2 16 0 = (enX m k b l).2.2) ∧ (-1000000000 ≤ (enX m k b l).2.1 ∧ (enX m k b l).2.1 ≤ 1000000000) ∧ (-1000000000 ≤ (enX m k b l).2.2 ∧ (enX m k b l).2.2 ≤ 1000000000))) := by
  have hS := h.s
  have hp : PSp m (si m 12 4 0) := ⟨rfl, fun c j hc => if_neg hc, fun _ _ _ _ => rfl⟩
  obtain ⟨hB, hL, ⟨hl11, hb5⟩, ⟨ob1, ob2, ob3⟩, hcel, hA⟩ := shows_ok h hb hl (PSp.rf m)
  obtain ⟨t0, t1, t2, t3⟩ := hL.1
  have efr : mi (si m 12 4 0) ((pg m b) + 3) l.toNat = ((wN m).at3 b l).2.1 := (hp.cel (by have := hB.2.1.2; omega)).trans hA.2.2.1.2.1
  have eX : sEE (cdX m) (rdE m k b) (((wN m).at3 b l).2.2 - ((wN m).at3 b l).2.1).toNat ((170 * b) + ((wN m).at3 b l).2.1) 0 (fun _ => 0) (fun _ => 0) = sEE ((wN m).cd b) (rdE m k b) (((wN m).at3 b l).2.2 - ((wN m).at3 b l).2.1).toNat ((wN m).at3 b l).2.1 0 (fun _ => 0) (fun _ => 0) := by
    rw [Int.add_comm]
    exact sEE_cg _ _ _ _ _ (fun j _ _ => by rw [Int.add_comm]; rfl)
  have hpl := sEE_pile (rd := rdE m k b) (((wN m).at3 b l).2.2 - ((wN m).at3 b l).2.1).toNat ((wN m).at3 b l).2.1 0 (ml (si m 12 4 0) 15) (ml (si m 12 4 0) 16) (fun _ => 0) (fun _ => 0) hL.2.2.1 (fun j hj => by omega) (fun j hj => by omega)
  have h01 := enX_01 m k b l
  have e1 : (sEE ((wN m).cd b) (rdE m k b) (((wN m).at3 b l).2.2 - ((wN m).at3 b l).2.1).toNat ((wN m).at3 b l).2.1 0 (ml (si m 12 4 0) 15) (ml (si m 12 4 0) 16)).1 = (enX m k b l).1 := by
    rw [hpl.1, ← eX]
    rfl
  refine qM.mono (Rp := (fun r N2 => PSp m N2 ∧ ((sEE ((wN m).cd b) (rdE m k b) (((wN m).at3 b l).2.2 - ((wN m).at3 b l).2.1).toNat ((wN m).at3 b l).2.1 0 (ml (si m 12 4 0) 15) (ml (si m 12 4 0) 16)).1 = 0 → r = some (vI 0)) ∧ ((sEE ((wN m).cd b) (rdE m k b) (((wN m).at3 b l).2.2 - ((wN m).at3 b l).2.1).toNat ((wN m).at3 b l).2.1 0 (ml (si m 12 4 0) 15) (ml (si m 12 4 0) 16)).1 ≠ 0 → r = some (vI 1) ∧ (ml N2 15 0 = (sEE ((wN m).cd b) (rdE m k b) (((wN m).at3 b l).2.2 - ((wN m).at3 b l).2.1).toNat ((wN m).at3 b l).2.1 0 (ml (si m 12 4 0) 15) (ml (si m 12 4 0) 16)).2.1 0 ∧ ml N2 16 0 = (sEE ((wN m).cd b) (rdE m k b) (((wN m).at3 b l).2.2 - ((wN m).at3 b l).2.1).toNat ((wN m).at3 b l).2.1 0 (ml (si m 12 4 0) 15) (ml (si m 12 4 0) 16)).2.2 0) ∧ (-1000000000 ≤ (sEE ((wN m).cd b) (rdE m k b) (((wN m).at3 b l).2.2 - ((wN m).at3 b l).2.1).toNat ((wN m).at3 b l).2.1 0 (ml (si m 12 4 0) 15) (ml (si m 12 4 0) 16)).2.1 0 ∧ (sEE ((wN m).cd b) (rdE m k b) (((wN m).at3 b l).2.2 - ((wN m).at3 b l).2.1).toNat ((wN m).at3 b l).2.1 0 (ml (si m 12 4 0) 15) (ml (si m 12 4 0) 16)).2.1 0 ≤ 1000000000) ∧ (-1000000000 ≤ (sEE ((wN m).cd b) (rdE m k b) (((wN m).at3 b l).2.2 - ((wN m).at3 b l).2.1).toNat ((wN m).at3 b l).2.1 0 (ml (si m 12 4 0) 15) (ml (si m 12 4 0) 16)).2.2 0 ∧ (sEE ((wN m).cd b) (rdE m k b) (((wN m).at3 b l).2.2 - ((wN m).at3 b l).2.1).toNat ((wN m).at3 b l).2.1 0 (ml (si m 12 4 0) 15) (ml (si m 12 4 0) 16)).2.2 0 ≤ 1000000000)))) ?_ (fun r N2 q => ?_)
  · refine qM.intro okX8_shows (Nat.le_of_ble_eq_true rfl) ?_
    refine j_aload_n rfl rfl ?_
    refine j_getR (q := (pg m b)) rfl f_X8_31 rfl ob1.1 ob1.2.1 ob2 ?_
    refine j_astore rfl (by decide) ?_
    refine j_iconst rfl ?_
    refine j_istore rfl (by decide) ?_
    refine j_aload_n rfl rfl ?_
    refine j_iconst rfl ?_
    refine j_putZ rfl f_X8_61 (by omega) rfl (hS.lt (by decide)) (hS.k (by decide) (by decide)) ?_
    refine j_aload rfl rfl ?_
    refine j_getR (q := ((pg m b) + 3)) rfl f_X8_65 rfl ob3.1 ob3.2.1 (ob3.q 2 3 13 12 (by decide)).1 ?_
    refine j_iload_n rfl rfl ?_
    refine j_iald (n := 12) rfl (ob3.q 2 3 13 12 (by decide)).2.1 (ob3.q 2 3 13 12 (by decide)).2.2.1 (ob3.q 2 3 13 12 (by decide)).2.2.2 (by omega) (by omega) (by decide) ?_
    have u20_1 := mi_rng (si m 12 4 0) ((pg m b) + 3) l.toNat
    rw [show mi (si m 12 4 0) ((pg m b) + 3) l.toNat = ((wN m).at3 b l).2.1 from efr]
    refine j_istore rfl (by decide) ?_
    refine j_loc (ls' := [(0, vR 12), (1, vI k), (2, vR (bx m b)), (3, vI l), (4, vR (pg m b)), (5, vI 0), (6, vI ((wN m).at3 b l).2.1)]) rfl ?_
    exact lp_shows h h4 hk hb hl (((wN m).at3 b l).2.2 - ((wN m).at3 b l).2.1).toNat ((wN m).at3 b l).2.1 0 _ hp (mi_si_same _ _ _ (by decide) (by decide)) (by omega) (by omega) (by decide) (by omega) hL.2.2.1 (fun i hi => by omega) rfl
  · rcases h01 with z | z
    · exact ⟨q.1, by rw [z]; exact q.2.1 (e1.trans z), fun y => absurd z y⟩
    · have nz : (sEE ((wN m).cd b) (rdE m k b) (((wN m).at3 b l).2.2 - ((wN m).at3 b l).2.1).toNat ((wN m).at3 b l).2.1 0 (ml (si m 12 4 0) 15) (ml (si m 12 4 0) 16)).1 ≠ 0 := by rw [e1, z]; decide
      obtain ⟨y1, ⟨y2, y3⟩, y4, y5⟩ := q.2.2 nz
      have x := hpl.2 nz
      rw [← eX] at x
      rw [x.1] at y4
      rw [x.2] at y5
      exact ⟨q.1, by rw [z]; exact y1, fun _ => ⟨⟨y2.trans x.1, y3.trans x.2⟩, y4, y5⟩⟩


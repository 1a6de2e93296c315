/-- what no call that runs changes but run() and all() -/
def FQ (m N : AM) : Prop := N.2.2 = m.2.2 ∧ (∀ o, ¬ scr o → N.2.1 o = m.2.1 o) ∧ ∀ o j : Nat, ¬ (106 ≤ o ∧ o ≤ 114) → ¬ (128 ≤ o ∧ o ≤ 132) → ¬ (o = 86 ∧ 35 ≤ j ∧ j ≤ 49) → N.1 o j = m.1 o j
theorem FQ.rf (m : AM) : FQ m m := ⟨rfl, fun _ _ => rfl, fun _ _ _ _ _ => rfl⟩
theorem FQ.trans {m M N : AM} (h : FQ m M) (h2 : FQ M N) : FQ m N := ⟨h2.1.trans h.1, fun o ho => (h2.2.1 o ho).trans (h.2.1 o ho), fun o j a b c => (h2.2.2 o j a b c).trans (h.2.2 o j a b c)⟩
theorem FR.fq {m N : AM} (h : FR m N) : FQ m N := ⟨h.1, h.2.1, fun o j a _ c => h.2.2 o j a (fun q => c ⟨q.1, q.2.1, by omega⟩)⟩
theorem FQ.same {m N : AM} (h : SameP m N) : FQ m N := (FR.same h).fq
theorem FQ.own {m N : AM} (h : FQ m N) {k : Nat} (hk : 35 ≤ k ∧ k ≤ 49) (v : Int) : FQ m (si N 86 k v) := ⟨h.1, h.2.1, fun p j h1 h2 h3 => by
  show (if p = 86 ∧ j = k then v else N.1 p j) = m.1 p j
  rw [if_neg (by rintro ⟨rfl, rfl⟩; omega)]
  exact h.2.2 p j h1 h2 h3⟩
theorem FQ.asIs {m N : AM} (h : FQ m N) : FQ m (aiM N) := ((h.own (by omega) _).own (by omega) _).own (by omega) _
theorem FQ.cell {m N : AM} (h : FQ m N) {o j : Nat} (h1 : ¬ (106 ≤ o ∧ o ≤ 114)) (h2 : ¬ (128 ≤ o ∧ o ≤ 132)) (h3 : ¬ (o = 86 ∧ 35 ≤ j ∧ j ≤ 49)) : mi N o j = mi m o j := by
  show (zi (N.1 o j)).toInt = (zi (m.1 o j)).toInt
  rw [h.2.2 o j h1 h2 h3]
/-- papers as they are written -/
def RP (m : AM) : Prop := ∀ p : Int, 0 ≤ p → p < mi m 86 70 → (mi m 133 p.toNat = 1 → (10 ≤ mi m 134 p.toNat ∧ mi m 134 p.toNat - 10 < mi m 86 1) ∧ 0 ≤ mi m 135 p.toNat ∧ mi m 135 p.toNat / 100 < mi m 86 21 ∧ mi m 135 p.toNat % 100 ≠ 0) ∧ (mi m 133 p.toNat ≠ 1 → (10 ≤ mi m 134 p.toNat ∧ mi m 134 p.toNat - 10 < mi m 86 1) ∨ (0 ≤ mi m 134 p.toNat ∧ mi m 134 p.toNat ≤ 2 ∧ 0 ≤ mi m 135 p.toNat ∧ mi m 135 p.toNat ≤ 99999)) ∧ mi m 136 (2 * p).toNat < p ∧ mi m 136 ((2 * p) + 1).toNat < p
/-- the reference between two calls -/
def RA (m : AM) : Prop := RS m ∧ RP m
theorem RA.mv {m N : AM} (h : RA m) (hR : RI N) (f : FQ m N) : RA N := by
  obtain ⟨⟨a, b, c⟩, d⟩ := h
  have e1 : mi N 86 1 = mi m 86 1 := f.cell (by decide) (by decide) (by decide)
  have e21 : mi N 86 21 = mi m 86 21 := f.cell (by decide) (by decide) (by decide)
  have e70 : mi N 86 70 = mi m 86 70 := f.cell (by decide) (by decide) (by decide)
  have e : ∀ o : Nat, o = 88 ∨ o = 123 ∨ o = 124 ∨ o = 133 ∨ o = 134 ∨ o = 135 ∨ o = 136 → ∀ j, mi N o j = mi m o j := fun o ho j => f.cell (by omega) (by omega) (by omega)
  refine ⟨⟨hR, fun x s h0 h1 h2 h3 => ?_, fun j h0 h1 => ?_⟩, fun p h0 h1 => ?_⟩
  · rw [e 88 (by omega)]; exact b x s h0 (by omega) h2 h3
  · rw [e 123 (by omega), e 124 (by omega)]; exact c j h0 h1
  · rw [e 133 (by omega), e 134 (by omega), e 135 (by omega), e 136 (by omega), e 136 (by omega), e1, e21]; exact d p h0 (by omega)
theorem RA.of {m N : AM} (h : RA m) (hs : SameP m N) : RA N := h.mv (h.1.1.of hs) (FQ.same hs)
/-- whether a paper's own claim is so on machine k, and the memory -/
def soM (m : AM) (k p : Int) : Int × AM :=
  if mi m 133 p.toNat = 1 then
    (if mi (roM (aiM m) (mi m 135 p.toNat / 100) (mi m 135 p.toNat % 100)) 111 (mi m 134 p.toNat - 10).toNat = 0 then 1 else 0, roM (aiM m) (mi m 135 p.toNat / 100) (mi m 135 p.toNat % 100))
  else if mi m 134 p.toNat ≥ 10 then (if gapX m k (mi m 134 p.toNat - 10) = 0 then 1 else 0, m)
  else (if mi m 123 ((3 * k) + mi m 134 p.toNat).toNat ≥ -mi m 135 p.toNat ∧ mi m 124 ((3 * k) + mi m 134 p.toNat).toNat ≤ mi m 135 p.toNat then 1 else 0, m)
theorem soM_keep {m : AM} (h : RA m) {k p : Int} (h0 : 0 ≤ p) (h1 : p < mi m 86 70) : RA (soM m k p).2 ∧ FQ m (soM m k p).2 ∧ 0 ≤ (soM m k p).1 ∧ (soM m k p).1 ≤ 1 := by
  have g := h.2 p h0 h1
  unfold soM
  split
  · next q =>
    have g1 := g.1 q
    have f : FQ m (roM (aiM m) (mi m 135 p.toNat / 100) (mi m 135 p.toNat % 100)) := ((FQ.rf m).asIs).trans ((FR.rf (aiM m)).run _ _).fq
    exact ⟨h.mv (h.1.1.asIs.run (by omega) (by omega)) f, f, by dsimp only; split <;> decide, by dsimp only; split <;> decide⟩
  · split
    · exact ⟨h, FQ.rf m, by dsimp only; split <;> decide, by dsimp only; split <;> decide⟩
    · exact ⟨h, FQ.rf m, by dsimp only; split <;> decide, by dsimp only; split <;> decide⟩
theorem soM_same {m M : AM} (h : SameP m M) (k p : Int) : (soM M k p).1 = (soM m k p).1 ∧ SameP (soM m k p).2 (soM M k p).2 := by
  have g := roM_same h.asIs (mi m 135 p.toNat / 100) (mi m 135 p.toNat % 100)
  have gg : gapX M k (mi m 134 p.toNat - 10) = gapX m k (mi m 134 p.toNat - 10) := by
    obtain ⟨L, rfl⟩ := h.ex
    rfl
  unfold soM
  rw [h.mi 133, h.mi 135, h.mi 134, g.mi 111, gg, h.mi 123, h.mi 124]
  split
  · exact ⟨rfl, g⟩
  · split
    · exact ⟨rfl, h⟩
    · exact ⟨rfl, h⟩

set_option maxRecDepth 20000 in
set_option maxHeartbeats 4000000 in
theorem ct_X12_isSo {G : QW} {m : AM} {k p : Int} (h : RA m) (hk0 : 0 ≤ k) (hk1 : k ≤ 1) (h0 : 0 ≤ p) (h1 : p < mi m 86 70) : qM G mX12_isSo 6 0 0 [vR 86, vI k, vI p] m (fun r m' => r = some (vI (soM m k p).1) ∧ SameP (soM m k p).2 m') := by
  refine qM.intro okX12_isSo (Nat.le_of_ble_eq_true rfl) ?_
  have hp := h.2 p h0 h1
  have hpp := h.1.1.i.s 86 70 0 20 (by decide)
  have hfl := h.1.1.i.s 86 21 0 8 (by decide)
  have hbx := h.1.1.i.s 86 1 0 6 (by decide)
  refine j_aload_n rfl rfl ?_
  refine j_getR (q := 133) rfl f_X12_151 rfl (h.1.1.s.lt (by decide)) (h.1.1.s.k (by decide) (by decide)) (h.1.1.s.r (by decide)) ?_
  refine j_iload_n rfl rfl ?_
  refine j_iald (n := 20) rfl (h.1.1.s.lt (by decide)) (h.1.1.s.k (by decide) (by decide)) (h.1.1.s.n (by decide) (by decide)) (by omega) (by omega) (by decide) ?_
  have u5_1 := h.1.1.i.a 133 (0) 1 (by decide) p.toNat
  refine j_iconst rfl ?_
  refine j_icmp_ne (tgt := 59) rfl (by decide) (by omega) (by omega) (by omega) (by omega) (fun hb7_1 => ?_) (fun hb7_1 => ?_)
  · skip
    have g2 := hp.2.1 (by omega)
    have hs1 := h.1.1.i.a 123 (-99999) 99999 (by decide) ((3 * k) + mi m 134 p.toNat).toNat
    refine j_aload_n rfl rfl ?_
    refine j_getR (q := 134) rfl f_X12_154 rfl (h.1.1.s.lt (by decide)) (h.1.1.s.k (by decide) (by decide)) (h.1.1.s.r (by decide)) ?_
    refine j_iload_n rfl rfl ?_
    refine j_iald (n := 20) rfl (h.1.1.s.lt (by decide)) (h.1.1.s.k (by decide) (by decide)) (h.1.1.s.n (by decide) (by decide)) (by omega) (by omega) (by decide) ?_
    have u64_1 := h.1.1.i.a 134 (0) 15 (by decide) p.toNat
    refine j_bipush rfl (by decide) ?_
    refine j_icmp_lt (tgt := 93) rfl (by decide) (by omega) (by omega) (by omega) (by omega) (fun hb67_1 => ?_) (fun hb67_1 => ?_)
    · skip
      refine j_iconst rfl ?_
      refine j_iload_n rfl rfl ?_
      refine j_imul rfl ?_
      refine j_aload_n rfl rfl ?_
      refine j_getR (q := 134) rfl f_X12_154 rfl (h.1.1.s.lt (by decide)) (h.1.1.s.k (by decide) (by decide)) (h.1.1.s.r (by decide)) ?_
      refine j_iload_n rfl rfl ?_
      refine j_iald (n := 20) rfl (h.1.1.s.lt (by decide)) (h.1.1.s.k (by decide) (by decide)) (h.1.1.s.n (by decide) (by decide)) (by omega) (by omega) (by decide) ?_
      have u101_1 := h.1.1.i.a 134 (0) 15 (by decide) p.toNat
      refine j_iadd rfl ?_
      refine j_istore_n rfl (by decide) ?_
      refine j_aload_n rfl rfl ?_
      refine j_getR (q := 123) rfl f_X12_121 rfl (h.1.1.s.lt (by decide)) (h.1.1.s.k (by decide) (by decide)) (h.1.1.s.r (by decide)) ?_
      refine j_iload_n rfl rfl ?_
      refine j_iald (n := 6) rfl (h.1.1.s.lt (by decide)) (h.1.1.s.k (by decide) (by decide)) (h.1.1.s.n (by decide) (by decide)) (by omega) (by omega) (by decide) ?_
      have u109_1 := h.1.1.i.a 123 (-99999) 99999 (by decide) ((3 * k) + (mi m 134 p.toNat)).toNat
      refine j_aload_n rfl rfl ?_
      refine j_getR (q := 135) rfl f_X12_157 rfl (h.1.1.s.lt (by decide)) (h.1.1.s.k (by decide) (by decide)) (h.1.1.s.r (by decide)) ?_
      refine j_iload_n rfl rfl ?_
      refine j_iald (n := 20) rfl (h.1.1.s.lt (by decide)) (h.1.1.s.k (by decide) (by decide)) (h.1.1.s.n (by decide) (by decide)) (by omega) (by omega) (by decide) ?_
      have u115_1 := mi_rng m 135 p.toNat
      refine j_ineg rfl ?_
      refine j_icmp_lt (tgt := 139) rfl (by decide) (by omega) (by omega) (by omega) (by omega) (fun hb117_1 => ?_) (fun hb117_1 => ?_)
      · skip
        refine j_iconst rfl ?_
        refine j_zret rfl rfl (by decide) ?_ rfl (Nat.le_refl _)
        refine ⟨?_, ?_⟩
        · unfold soM; rw [if_neg (by omega), if_neg (by omega)]; dsimp only; first | (rw [if_pos (by omega)]; done) | (rw [if_neg (by omega)]; done)
        · unfold soM; rw [if_neg (by omega), if_neg (by omega)]; exact SameP.rf m
      · skip
        refine j_aload_n rfl rfl ?_
        refine j_getR (q := 124) rfl f_X12_124 rfl (h.1.1.s.lt (by decide)) (h.1.1.s.k (by decide) (by decide)) (h.1.1.s.r (by decide)) ?_
        refine j_iload_n rfl rfl ?_
        refine j_iald (n := 6) rfl (h.1.1.s.lt (by decide)) (h.1.1.s.k (by decide) (by decide)) (h.1.1.s.n (by decide) (by decide)) (by omega) (by omega) (by decide) ?_
        have u125_1 := h.1.1.i.a 124 (-99999) 99999 (by decide) ((3 * k) + (mi m 134 p.toNat)).toNat
        refine j_aload_n rfl rfl ?_
        refine j_getR (q := 135) rfl f_X12_157 rfl (h.1.1.s.lt (by decide)) (h.1.1.s.k (by decide) (by decide)) (h.1.1.s.r (by decide)) ?_
        refine j_iload_n rfl rfl ?_
        refine j_iald (n := 20) rfl (h.1.1.s.lt (by decide)) (h.1.1.s.k (by decide) (by decide)) (h.1.1.s.n (by decide) (by decide)) (by omega) (by omega) (by decide) ?_
        have u131_1 := mi_rng m 135 p.toNat
        refine j_icmp_gt (tgt := 139) rfl (by decide) (by omega) (by omega) (by omega) (by omega) (fun hb132_1 => ?_) (fun hb132_1 => ?_)
        · skip
          refine j_iconst rfl ?_
          refine j_zret rfl rfl (by decide) ?_ rfl (Nat.le_refl _)
          refine ⟨?_, ?_⟩
          · unfold soM; rw [if_neg (by omega), if_neg (by omega)]; dsimp only; first | (rw [if_pos (by omega)]; done) | (rw [if_neg (by omega)]; done)
          · unfold soM; rw [if_neg (by omega), if_neg (by omega)]; exact SameP.rf m
        · skip
          refine j_iconst rfl ?_
          refine j_goto (tgt := 140) rfl (by decide) ?_
          refine j_zret rfl rfl (by decide) ?_ rfl (Nat.le_refl _)
          refine ⟨?_, ?_⟩
          · unfold soM; rw [if_neg (by omega), if_neg (by omega)]; dsimp only; first | (rw [if_pos (by omega)]; done) | (rw [if_neg (by omega)]; done)
          · unfold soM; rw [if_neg (by omega), if_neg (by omega)]; exact SameP.rf m
    · skip
      refine j_aload_n rfl rfl ?_
      refine j_iload_n rfl rfl ?_
      refine j_aload_n rfl rfl ?_
      refine j_getR (q := 134) rfl f_X12_154 rfl (h.1.1.s.lt (by decide)) (h.1.1.s.k (by decide) (by decide)) (h.1.1.s.r (by decide)) ?_
      refine j_iload_n rfl rfl ?_
      refine j_iald (n := 20) rfl (h.1.1.s.lt (by decide)) (h.1.1.s.k (by decide) (by decide)) (h.1.1.s.n (by decide) (by decide)) (by omega) (by omega) (by decide) ?_
      have u77_1 := h.1.1.i.a 134 (0) 15 (by decide) p.toNat
      refine j_bipush rfl (by decide) ?_
      refine j_isub rfl ?_
      refine j_callV (ci := 12) rfl okX12_gapsOf c_X12_440 (ct_X12_gapsOf h.1 hk0 hk1 (by omega) (by omega)) rfl rfl (h.1.1.s.lt (by decide)) (h.1.1.s.k (by decide) (by decide)) (by decide) rfl (Nat.le_of_ble_eq_true rfl) (by decide) (by decide) ?_
      rintro vq M3 ⟨e1, hs⟩
      rw [e1]
      clear e1
      simp only [Option.toList_some, Option.toList_none, List.cons_append, List.nil_append]
      have hgr := gapX_rng m k (mi m 134 p.toNat - 10)
      refine j_if_ne (tgt := 91) rfl (by decide) (by omega) (by omega) (fun hb84_1 => ?_) (fun hb84_1 => ?_)
      · skip
        refine j_iconst rfl ?_
        refine j_zret rfl rfl (by decide) ?_ rfl (Nat.le_refl _)
        refine ⟨?_, ?_⟩
        · unfold soM; rw [if_neg (by omega), if_pos (by omega)]; dsimp only; first | (rw [if_pos (by omega)]; done) | (rw [if_neg (by omega)]; done)
        · unfold soM; rw [if_neg (by omega), if_pos (by omega)]; exact hs
      · skip
        refine j_iconst rfl ?_
        refine j_goto (tgt := 92) rfl (by decide) ?_
        refine j_zret rfl rfl (by decide) ?_ rfl (Nat.le_refl _)
        refine ⟨?_, ?_⟩
        · unfold soM; rw [if_neg (by omega), if_pos (by omega)]; dsimp only; first | (rw [if_pos (by omega)]; done) | (rw [if_neg (by omega)]; done)
        · unfold soM; rw [if_neg (by omega), if_pos (by omega)]; exact hs
  · skip
    refine j_aload_n rfl rfl ?_
    refine j_callV (ci := 12) rfl okX12_asItIs c_X12_386 (ct_X12_asIs h.1.1) rfl rfl (h.1.1.s.lt (by decide)) (h.1.1.s.k (by decide) (by decide)) (by decide) rfl (Nat.le_of_ble_eq_true rfl) (by decide) (by decide) ?_
    rintro vq mq ⟨e1, e2⟩
    rw [e1, e2]
    clear e1 e2
    simp only [Option.toList_some, Option.toList_none, List.cons_append, List.nil_append]
    have e135 : mi (aiM m) 135 p.toNat = mi m 135 p.toNat := aiM_mi m (Or.inl (by decide))
    have g1 := hp.1 (by omega)
    refine j_aload_n rfl rfl ?_
    refine j_aload_n rfl rfl ?_
    refine j_getR (q := 135) rfl f_X12_157 rfl (h.1.1.s.lt (by decide)) (h.1.1.s.k (by decide) (by decide)) (h.1.1.s.r (by decide)) ?_
    refine j_iload_n rfl rfl ?_
    refine j_iald (n := 20) rfl (h.1.1.s.lt (by decide)) (h.1.1.s.k (by decide) (by decide)) (h.1.1.s.n (by decide) (by decide)) (by omega) (by omega) (by decide) ?_
    have u20_1 := mi_rng (aiM m) 135 p.toNat
    refine j_bipush rfl (by decide) ?_
    refine j_idivN rfl (by omega) (by omega) (by omega) (by omega) ?_
    refine j_aload_n rfl rfl ?_
    refine j_getR (q := 135) rfl f_X12_157 rfl (h.1.1.s.lt (by decide)) (h.1.1.s.k (by decide) (by decide)) (h.1.1.s.r (by decide)) ?_
    refine j_iload_n rfl rfl ?_
    refine j_iald (n := 20) rfl (h.1.1.s.lt (by decide)) (h.1.1.s.k (by decide) (by decide)) (h.1.1.s.n (by decide) (by decide)) (by omega) (by omega) (by decide) ?_
    have u29_1 := mi_rng (aiM m) 135 p.toNat
    refine j_bipush rfl (by decide) ?_
    refine j_iremN rfl (by omega) (by omega) (by omega) (by omega) ?_
    refine j_callV (ci := 12) rfl okX12_runOf c_X12_389 (ct_X12_runOfI h.1.1.asIs (by omega) (by omega) (by omega) (by omega)) rfl rfl (h.1.1.s.lt (by decide)) (h.1.1.s.k (by decide) (by decide)) (by decide) rfl (Nat.le_of_ble_eq_true rfl) (by decide) (by decide) ?_
    rintro vq M2 ⟨e1, hs2⟩
    rw [e1]
    clear e1
    simp only [Option.toList_some, Option.toList_none, List.cons_append, List.nil_append]
    rw [e135] at hs2
    have g0 : FQ m (roM (aiM m) (mi m 135 p.toNat / 100) (mi m 135 p.toNat % 100)) := ((FQ.rf m).asIs).trans ((FR.rf (aiM m)).run _ _).fq
    have hR2 := (h.1.1.asIs.run (f := mi m 135 p.toNat / 100) (n := mi m 135 p.toNat % 100) (by omega) (by omega)).of hs2
    have e134 : mi M2 134 p.toNat = mi m 134 p.toNat := (hs2.mi 134 _).trans (g0.cell (by decide) (by decide) (by omega))
    have e111 := hs2.mi 111 (mi m 134 p.toNat - 10).toNat
    refine j_aload_n rfl rfl ?_
    refine j_getR (q := 111) rfl f_X12_84 rfl (hR2.s.lt (by decide)) (hR2.s.k (by decide) (by decide)) (hR2.s.r (by decide)) ?_
    refine j_aload_n rfl rfl ?_
    refine j_getR (q := 134) rfl f_X12_154 rfl (hR2.s.lt (by decide)) (hR2.s.k (by decide) (by decide)) (hR2.s.r (by decide)) ?_
    refine j_iload_n rfl rfl ?_
    refine j_iald (n := 20) rfl (hR2.s.lt (by decide)) (hR2.s.k (by decide) (by decide)) (hR2.s.n (by decide) (by decide)) (by omega) (by omega) (by decide) ?_
    have u45_1 := hR2.i.a 134 (0) 15 (by decide) p.toNat
    refine j_bipush rfl (by decide) ?_
    refine j_isub rfl ?_
    refine j_zald (n := 6) rfl (hR2.s.lt (by decide)) (hR2.s.k (by decide) (by decide)) (hR2.s.n (by decide) (by decide)) (by omega) (by omega) (by decide) ?_
    have u49_1 := mi_rng M2 111 ((mi M2 134 p.toNat) - 10).toNat
    refine j_if_ne (tgt := 57) rfl (by decide) (by omega) (by omega) (fun hb50_1 => ?_) (fun hb50_1 => ?_)
    · skip
      refine j_iconst rfl ?_
      refine j_zret rfl rfl (by decide) ?_ rfl (Nat.le_refl _)
      refine ⟨?_, ?_⟩
      · unfold soM; rw [if_pos (by omega)]; dsimp only; first | (rw [if_pos (by rw [← e111, ← e134]; omega)]; done) | (rw [if_neg (by rw [← e111, ← e134]; omega)]; done)
      · unfold soM; rw [if_pos (by omega)]; exact hs2
    · skip
      refine j_iconst rfl ?_
      refine j_goto (tgt := 58) rfl (by decide) ?_
      refine j_zret rfl rfl (by decide) ?_ rfl (Nat.le_refl _)
      refine ⟨?_, ?_⟩
      · unfold soM; rw [if_pos (by omega)]; dsimp only; first | (rw [if_pos (by rw [← e111, ← e134]; omega)]; done) | (rw [if_neg (by rw [← e111, ← e134]; omega)]; done)
      · unfold soM; rw [if_pos (by omega)]; exact hs2


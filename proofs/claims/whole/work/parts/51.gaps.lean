theorem sEE_pile {code : Int → Nat × Int} {rd : Nat → Int → Int × Int} : ∀ (c : Nat) (k n : Int) (f g f2 g2 : Nat → Int), sWF code c k n → (∀ j : Nat, (j : Int) < n → f j = f2 j) → (∀ j : Nat, (j : Int) < n → g j = g2 j) → (sEE code rd c k n f g).1 = (sEE code rd c k n f2 g2).1 ∧ ((sEE code rd c k n f g).1 ≠ 0 → (sEE code rd c k n f g).2.1 0 = (sEE code rd c k n f2 g2).2.1 0 ∧ (sEE code rd c k n f g).2.2 0 = (sEE code rd c k n f2 g2).2.2 0) := by
  intro c
  induction c with
  | zero =>
    intro k n f g f2 g2 hw h h2
    have hn : n = 1 := hw
    exact ⟨rfl, fun _ => ⟨h 0 (by omega), h2 0 (by omega)⟩⟩
  | succ c ih =>
    intro k n f g f2 g2 hw h h2
    simp only [sWF] at hw
    obtain ⟨hn, hW⟩ := hw
    simp only [sEE]
    rcases hW with ⟨hw, -, -, -, -, hw2⟩ | ⟨hw, hn1, hw2⟩ | ⟨hw, hw3, hn2, hw2⟩
    · simp only [if_pos hw]
      exact ih (k + 1) (n + 1) _ _ _ _ hw2 (fun j hj => sUp_eq (fun e => h j (by omega))) (fun j hj => sUp_eq (fun e => h2 j (by omega)))
    · have n6 : ¬ (code k).1 < 6 := by omega
      simp only [if_neg n6, if_pos hw]
      rw [h (n - 1).toNat (by omega), h2 (n - 1).toNat (by omega)]
      exact ih (k + 1) n _ _ _ _ hw2 (fun j hj => sUp_eq (fun e => h j (by omega))) (fun j hj => sUp_eq (fun e => h2 j (by omega)))
    · have n6 : ¬ (code k).1 < 6 := by omega
      have n7 : ¬ (code k).1 = 6 := by omega
      simp only [if_neg n6, if_neg n7]
      rw [h (n - 1).toNat (by omega), h (n - 2).toNat (by omega), h2 (n - 1).toNat (by omega), h2 (n - 2).toNat (by omega)]
      by_cases hr : (sJE (code k).1 (f2 (n - 2).toNat) (g2 (n - 2).toNat) (f2 (n - 1).toNat) (g2 (n - 1).toNat)).1 = 0
      · simp only [if_pos hr]
        exact ⟨trivial, fun q => absurd rfl q⟩
      · simp only [if_neg hr]
        exact ih (k + 1) (n - 1) _ _ _ _ hw2 (fun j hj => sUp_eq (fun e => h j (by omega))) (fun j hj => sUp_eq (fun e => h2 j (by omega)))
def eE (code : Int → Nat × Int) (rd : Nat → Int → Int × Int) (c : Nat) (k : Int) : Int × Int × Int := ((sEE code rd c k 0 (fun _ => 0) (fun _ => 0)).1, (sEE code rd c k 0 (fun _ => 0) (fun _ => 0)).2.1 0, (sEE code rd c k 0 (fun _ => 0) (fun _ => 0)).2.2 0)
/-- the ends of line l of box b on machine k: whether they show (1), the least, the greatest -/
def enX (m : AM) (k b l : Int) : Int × Int × Int := eE (cdX m) (rdE m k b) (mi m 97 ((12 * b) + l).toNat - mi m 96 ((12 * b) + l).toNat).toNat ((170 * b) + mi m 96 ((12 * b) + l).toNat)
theorem enX_same {m M : AM} (h : SameP m M) (k b l : Int) : enX M k b l = enX m k b l := by
  obtain ⟨L, rfl⟩ := h.ex
  rfl
/-- the reference with what its spans and bits are -/
def RS (m : AM) : Prop := RI m ∧ (∀ b s : Int, 0 ≤ b → b < mi m 86 1 → 0 ≤ s → s ≤ 7 → 2 ≤ mi m 88 ((8 * b) + s).toNat ∧ mi m 88 ((8 * b) + s).toNat ≤ 20) ∧ ∀ j : Int, 0 ≤ j → j ≤ 5 → mi m 123 j.toNat ≤ mi m 124 j.toNat
theorem RS.of {m M : AM} (h : RS m) (hs : SameP m M) : RS M := by
  have a := h.1.of hs
  obtain ⟨L, rfl⟩ := hs.ex
  exact ⟨a, h.2⟩
theorem RS.line {m : AM} (h : RS m) {b l : Int} (hb0 : 0 ≤ b) (hb : b < mi m 86 1) (hl0 : 0 ≤ l) (hl : l < mi m 91 b.toNat) : (mi m 96 ((12 * b) + l).toNat ≤ mi m 97 ((12 * b) + l).toNat ∧ mi m 97 ((12 * b) + l).toNat ≤ 160) ∧ sWF (cdX m) (mi m 97 ((12 * b) + l).toNat - mi m 96 ((12 * b) + l).toNat).toNat ((170 * b) + mi m 96 ((12 * b) + l).toNat) 0 ∧ LK m b ((12 * b) + l) := by
  have g := h.1.2.2.2 b l hb0 hb hl0 hl
  exact ⟨g.1.2, g.2.2.1, g⟩
theorem ct_X12_findEndsX {G : QW} {m : AM} {k b l : Int} (h : RS m) (hk0 : 0 ≤ k) (hk1 : k ≤ 1) (hb0 : 0 ≤ b) (hb : b < mi m 86 1) (hl0 : 0 ≤ l) (hl : l < mi m 91 b.toNat) : qM G mX12_findEnds 2 0 0 [vR 86, vI k, vI b, vI l] m (fun r m' => SameP m m' ∧ r = some (vI (enX m k b l).1) ∧ ((enX m k b l).1 ≠ 0 → (ml m' 126 0 = (enX m k b l).2.1 ∧ ml m' 127 0 = (enX m k b l).2.2) ∧ (-1000000000 ≤ (enX m k b l).2.1 ∧ (enX m k b l).2.1 ≤ 1000000000) ∧ (-1000000000 ≤ (enX m k b l).2.2 ∧ (enX m k b l).2.2 ≤ 1000000000))) := by
  have g := h.line hb0 hb hl0 hl
  have h1 := h.1.i.s 86 1 0 6 (by decide)
  have h91 := h.1.i.a 91 0 12 (by decide) b.toNat
  refine (ct_X12_findEnds h.1.s h.1.i hk0 hk1 hb0 (by omega) hl0 (by omega) (fun s s0 s7 => h.2.1 b s hb0 hb s0 s7) (fun j j0 j1 => h.2.2 j (by omega) (by omega)) g.1 g.2.1).mono ?_
  rintro r m' ⟨h1, h2, h3⟩
  have p := sEE_pile (rd := rdE m k b) (mi m 97 ((12 * b) + l).toNat - mi m 96 ((12 * b) + l).toNat).toNat ((170 * b) + mi m 96 ((12 * b) + l).toNat) 0 (ml m 126) (ml m 127) (fun _ => 0) (fun _ => 0) g.2.1 (fun j hj => by exfalso; omega) (fun j hj => by exfalso; omega)
  refine ⟨h1, h2.trans (congrArg some (congrArg vI p.1)), fun hz => ?_⟩
  have hz2 : (enM m k b l).1 ≠ 0 := fun q => hz (p.1.symm.trans q)
  have q3 := h3 hz2
  have q4 := p.2 hz2
  have a1 : (enM m k b l).2.1 0 = (enX m k b l).2.1 := q4.1
  have a2 : (enM m k b l).2.2 0 = (enX m k b l).2.2 := q4.2
  rw [a1, a2] at q3
  exact q3
theorem enX_01 (m : AM) (k b l : Int) : (enX m k b l).1 = 0 ∨ (enX m k b l).1 = 1 := sEE_01 _ _ _ _ _
/-- 1 if line l of box b can go over on machine k -/
def ovF (m : AM) (k b l : Int) : Int :=
  if (enX m k b l).1 = 0 then 1
  else if mi m 93 ((12 * b) + l).toNat ≠ 0 then 0
  else if (enX m k b l).2.1 < -mostX m b ((12 * b) + l) - 1 ∨ (enX m k b l).2.2 > mostX m b ((12 * b) + l) then 1 else 0
theorem ovF_same {m M : AM} (h : SameP m M) (k b l : Int) : ovF M k b l = ovF m k b l := by
  obtain ⟨L, rfl⟩ := h.ex
  rfl
theorem ovF_01 (m : AM) (k b l : Int) : ovF m k b l = 0 ∨ ovF m k b l = 1 := by
  unfold ovF
  repeat' split
  all_goals first | exact Or.inl rfl | exact Or.inr rfl

set_option maxRecDepth 20000 in
set_option maxHeartbeats 4000000 in
theorem ct_X12_isOver {G : QW} {m : AM} {k b l : Int} (h : RS m) (hk0 : 0 ≤ k) (hk1 : k ≤ 1) (hb0 : 0 ≤ b) (hb : b < mi m 86 1) (hl0 : 0 ≤ l) (hl : l < mi m 91 b.toNat) : qM G mX12_isOver 3 0 0 [vR 86, vI k, vI b, vI l] m (fun r m' => r = some (vI (ovF m k b l)) ∧ SameP m m') := by
  refine qM.intro okX12_isOver (Nat.le_of_ble_eq_true rfl) ?_
  have hbx := h.1.i.s 86 1 0 6 (by decide)
  have h91 := h.1.i.a 91 0 12 (by decide) b.toNat
  refine j_aload_n rfl rfl ?_
  refine j_iload_n rfl rfl ?_
  refine j_iload_n rfl rfl ?_
  refine j_iload_n rfl rfl ?_
  refine j_callV (ci := 12) rfl okX12_findEnds c_X12_434 (ct_X12_findEndsX h hk0 hk1 hb0 hb hl0 hl) rfl rfl (h.1.s.lt (by decide)) (h.1.s.k (by decide) (by decide)) (by decide) rfl (Nat.le_of_ble_eq_true rfl) (by decide) (by decide) ?_
  rintro vq M ⟨hs, e1, h3⟩
  rw [e1]
  clear e1
  simp only [Option.toList_some, Option.toList_none, List.cons_append, List.nil_append]
  have h01 := enX_01 m k b l
  have hM := h.of hs
  have e93 := hs.mi 93 ((12 * b) + l).toNat
  have e94 := hs.mi 94 ((12 * b) + l).toNat
  have e88 := hs.mi 88 ((8 * b) + mi m 94 ((12 * b) + l).toNat).toNat
  have hLK := (h.line hb0 hb hl0 hl).2.2
  have hmx := mostX_rng hLK
  have htg := hLK.2.2.2
  refine j_if_ne (tgt := 12) rfl (by decide) (by omega) (by omega) (fun hb7_1 => ?_) (fun hb7_1 => ?_)
  · skip
    refine j_bipush rfl (by decide) ?_
    refine j_iload_n rfl rfl ?_
    refine j_imul rfl ?_
    refine j_iload_n rfl rfl ?_
    refine j_iadd rfl ?_
    refine j_istore rfl (by decide) ?_
    refine j_aload_n rfl rfl ?_
    refine j_getR (q := 93) rfl f_X12_29 rfl (hM.1.s.lt (by decide)) (hM.1.s.k (by decide) (by decide)) (hM.1.s.r (by decide)) ?_
    refine j_iload rfl rfl ?_
    refine j_zald (n := 84) rfl (hM.1.s.lt (by decide)) (hM.1.s.k (by decide) (by decide)) (hM.1.s.n (by decide) (by decide)) (by omega) (by omega) (by decide) ?_
    have u26_1 := hM.1.i.a 93 (0) 1 (by decide) ((12 * b) + l).toNat
    refine j_if_eq (tgt := 32) rfl (by decide) (by omega) (by omega) (fun hb27_1 => ?_) (fun hb27_1 => ?_)
    · skip
      refine j_aload_n rfl rfl ?_
      refine j_getR (q := 94) rfl f_X12_32 rfl (hM.1.s.lt (by decide)) (hM.1.s.k (by decide) (by decide)) (hM.1.s.r (by decide)) ?_
      refine j_iload rfl rfl ?_
      refine j_iald (n := 84) rfl (hM.1.s.lt (by decide)) (hM.1.s.k (by decide) (by decide)) (hM.1.s.n (by decide) (by decide)) (by omega) (by omega) (by decide) ?_
      have u38_1 := hM.1.i.a 94 (0) 13 (by decide) ((12 * b) + l).toNat
      refine j_bipush rfl (by decide) ?_
      refine j_icmp_lt (tgt := 50) rfl (by decide) (by omega) (by omega) (by omega) (by omega) (fun hb41_1 => ?_) (fun hb41_1 => ?_)
      · skip
        have htg2 := htg (by omega)
        refine j_aload_n rfl rfl ?_
        refine j_getR (q := 88) rfl f_X12_13 rfl (hM.1.s.lt (by decide)) (hM.1.s.k (by decide) (by decide)) (hM.1.s.r (by decide)) ?_
        refine j_bipush rfl (by decide) ?_
        refine j_iload_n rfl rfl ?_
        refine j_imul rfl ?_
        refine j_aload_n rfl rfl ?_
        refine j_getR (q := 94) rfl f_X12_32 rfl (hM.1.s.lt (by decide)) (hM.1.s.k (by decide) (by decide)) (hM.1.s.r (by decide)) ?_
        refine j_iload rfl rfl ?_
        refine j_iald (n := 84) rfl (hM.1.s.lt (by decide)) (hM.1.s.k (by decide) (by decide)) (hM.1.s.n (by decide) (by decide)) (by omega) (by omega) (by decide) ?_
        have u64_1 := hM.1.i.a 94 (0) 13 (by decide) ((12 * b) + l).toNat
        refine j_iadd rfl ?_
        refine j_iald (n := 48) rfl (hM.1.s.lt (by decide)) (hM.1.s.k (by decide) (by decide)) (hM.1.s.n (by decide) (by decide)) (by omega) (by omega) (by decide) ?_
        have u66_1 := hM.1.i.a 88 (0) 20 (by decide) ((8 * b) + (mi M 94 ((12 * b) + l).toNat)).toNat
        refine j_callS (As := [_]) rfl okX12_mostOf c_X12_339 (ct_X12_mostOf (by omega) (by omega)) rfl rfl (Nat.le_of_ble_eq_true rfl) (by decide) (by decide) ?_
        rintro vq mq ⟨e1, e2⟩
        rw [e1, e2]
        clear e1 e2
        simp only [Option.toList_some, Option.toList_none, List.cons_append, List.nil_append]
        refine j_istore rfl (by decide) ?_
        have hmo : FX12_mostOf M (mi M 88 ((8 * b) + (mi M 94 ((12 * b) + l).toNat)).toNat) = mostX m b ((12 * b) + l) := by unfold mostX; first | (rw [if_pos (by omega)]; done) | (rw [if_neg (by omega), ← e94] at *; done) | (rw [if_neg (by omega), ← e88, ← e94]; rfl) | (rw [if_neg (by omega), e94, e88]; rfl)
        refine j_loc (ls' := [(0, vR 86), (5, vI (mostX m b ((12 * b) + l)))]) (by rw [← hmo]; rfl) ?_
        obtain ⟨⟨g1, g2⟩, g3, g4⟩ := h3 (by omega)
        have g1 : ml M 126 (0 : Int).toNat = (enX m k b l).2.1 := g1
        have g2 : ml M 127 (0 : Int).toNat = (enX m k b l).2.2 := g2
        refine j_aload_n rfl rfl ?_
        refine j_getR (q := 126) rfl f_X12_130 rfl (hM.1.s.lt (by decide)) (hM.1.s.k (by decide) (by decide)) (hM.1.s.r (by decide)) ?_
        refine j_iconst rfl ?_
        refine j_lald (n := 170) rfl (hM.1.s.lt (by decide)) (hM.1.s.k (by decide) (by decide)) (hM.1.s.n (by decide) (by decide)) (by omega) (by omega) (by decide) ?_
        have u77_1 := ml_rng M 126 (0 : Int).toNat
        refine j_iload rfl rfl ?_
        refine j_ineg rfl ?_
        refine j_iconst rfl ?_
        refine j_isub rfl ?_
        refine j_i2l rfl (by omega) (by omega) ?_
        refine j_lc_lt (tgt := 101) rfl rfl (by decide) (by omega) (by omega) (by omega) (by omega) (fun hb84_1 => ?_) (fun hb84_1 => ?_)
        · skip
          refine j_iconst rfl ?_
          refine j_goto (tgt := 106) rfl (by decide) ?_
          refine j_zret rfl rfl (by decide) ?_ rfl (Nat.le_refl _)
          refine ⟨?_, hs⟩
          unfold ovF
          first | (rw [if_pos (by omega)]; done) | (rw [if_neg (by omega), if_pos (by omega)]; done) | (rw [if_neg (by omega), if_neg (by omega), if_pos (by omega)]; done) | (rw [if_neg (by omega), if_neg (by omega), if_neg (by omega)]; done)
        · skip
          refine j_aload_n rfl rfl ?_
          refine j_getR (q := 127) rfl f_X12_133 rfl (hM.1.s.lt (by decide)) (hM.1.s.k (by decide) (by decide)) (hM.1.s.r (by decide)) ?_
          refine j_iconst rfl ?_
          refine j_lald (n := 170) rfl (hM.1.s.lt (by decide)) (hM.1.s.k (by decide) (by decide)) (hM.1.s.n (by decide) (by decide)) (by omega) (by omega) (by decide) ?_
          have u93_1 := ml_rng M 127 (0 : Int).toNat
          refine j_iload rfl rfl ?_
          refine j_i2l rfl (by omega) (by omega) ?_
          refine j_lc_le (tgt := 105) rfl rfl (by decide) (by omega) (by omega) (by omega) (by omega) (fun hb97_1 => ?_) (fun hb97_1 => ?_)
          · skip
            refine j_iconst rfl ?_
            refine j_zret rfl rfl (by decide) ?_ rfl (Nat.le_refl _)
            refine ⟨?_, hs⟩
            unfold ovF
            first | (rw [if_pos (by omega)]; done) | (rw [if_neg (by omega), if_pos (by omega)]; done) | (rw [if_neg (by omega), if_neg (by omega), if_pos (by omega)]; done) | (rw [if_neg (by omega), if_neg (by omega), if_neg (by omega)]; done)
          · skip
            refine j_iconst rfl ?_
            refine j_goto (tgt := 106) rfl (by decide) ?_
            refine j_zret rfl rfl (by decide) ?_ rfl (Nat.le_refl _)
            refine ⟨?_, hs⟩
            unfold ovF
            first | (rw [if_pos (by omega)]; done) | (rw [if_neg (by omega), if_pos (by omega)]; done) | (rw [if_neg (by omega), if_neg (by omega), if_pos (by omega)]; done) | (rw [if_neg (by omega), if_neg (by omega), if_neg (by omega)]; done)
      · skip
        refine j_sipush rfl (by decide) ?_
        refine j_goto (tgt := 70) rfl (by decide) ?_
        refine j_istore rfl (by decide) ?_
        have hmo : 32767 = mostX m b ((12 * b) + l) := by unfold mostX; first | (rw [if_pos (by omega)]; done) | (rw [if_neg (by omega), ← e94] at *; done) | (rw [if_neg (by omega), ← e88, ← e94]; rfl) | (rw [if_neg (by omega), e94, e88]; rfl)
        refine j_loc (ls' := [(0, vR 86), (5, vI (mostX m b ((12 * b) + l)))]) (by rw [← hmo]; rfl) ?_
        obtain ⟨⟨g1, g2⟩, g3, g4⟩ := h3 (by omega)
        have g1 : ml M 126 (0 : Int).toNat = (enX m k b l).2.1 := g1
        have g2 : ml M 127 (0 : Int).toNat = (enX m k b l).2.2 := g2
        refine j_aload_n rfl rfl ?_
        refine j_getR (q := 126) rfl f_X12_130 rfl (hM.1.s.lt (by decide)) (hM.1.s.k (by decide) (by decide)) (hM.1.s.r (by decide)) ?_
        refine j_iconst rfl ?_
        refine j_lald (n := 170) rfl (hM.1.s.lt (by decide)) (hM.1.s.k (by decide) (by decide)) (hM.1.s.n (by decide) (by decide)) (by omega) (by omega) (by decide) ?_
        have u77_2 := ml_rng M 126 (0 : Int).toNat
        refine j_iload rfl rfl ?_
        refine j_ineg rfl ?_
        refine j_iconst rfl ?_
        refine j_isub rfl ?_
        refine j_i2l rfl (by omega) (by omega) ?_
        refine j_lc_lt (tgt := 101) rfl rfl (by decide) (by omega) (by omega) (by omega) (by omega) (fun hb84_2 => ?_) (fun hb84_2 => ?_)
        · skip
          refine j_iconst rfl ?_
          refine j_goto (tgt := 106) rfl (by decide) ?_
          refine j_zret rfl rfl (by decide) ?_ rfl (Nat.le_refl _)
          refine ⟨?_, hs⟩
          unfold ovF
          first | (rw [if_pos (by omega)]; done) | (rw [if_neg (by omega), if_pos (by omega)]; done) | (rw [if_neg (by omega), if_neg (by omega), if_pos (by omega)]; done) | (rw [if_neg (by omega), if_neg (by omega), if_neg (by omega)]; done)
        · skip
          refine j_aload_n rfl rfl ?_
          refine j_getR (q := 127) rfl f_X12_133 rfl (hM.1.s.lt (by decide)) (hM.1.s.k (by decide) (by decide)) (hM.1.s.r (by decide)) ?_
          refine j_iconst rfl ?_
          refine j_lald (n := 170) rfl (hM.1.s.lt (by decide)) (hM.1.s.k (by decide) (by decide)) (hM.1.s.n (by decide) (by decide)) (by omega) (by omega) (by decide) ?_
          have u93_2 := ml_rng M 127 (0 : Int).toNat
          refine j_iload rfl rfl ?_
          refine j_i2l rfl (by omega) (by omega) ?_
          refine j_lc_le (tgt := 105) rfl rfl (by decide) (by omega) (by omega) (by omega) (by omega) (fun hb97_2 => ?_) (fun hb97_2 => ?_)
          · skip
            refine j_iconst rfl ?_
            refine j_zret rfl rfl (by decide) ?_ rfl (Nat.le_refl _)
            refine ⟨?_, hs⟩
            unfold ovF
            first | (rw [if_pos (by omega)]; done) | (rw [if_neg (by omega), if_pos (by omega)]; done) | (rw [if_neg (by omega), if_neg (by omega), if_pos (by omega)]; done) | (rw [if_neg (by omega), if_neg (by omega), if_neg (by omega)]; done)
          · skip
            refine j_iconst rfl ?_
            refine j_goto (tgt := 106) rfl (by decide) ?_
            refine j_zret rfl rfl (by decide) ?_ rfl (Nat.le_refl _)
            refine ⟨?_, hs⟩
            unfold ovF
            first | (rw [if_pos (by omega)]; done) | (rw [if_neg (by omega), if_pos (by omega)]; done) | (rw [if_neg (by omega), if_neg (by omega), if_pos (by omega)]; done) | (rw [if_neg (by omega), if_neg (by omega), if_neg (by omega)]; done)
    · skip
      refine j_iconst rfl ?_
      refine j_zret rfl rfl (by decide) ?_ rfl (Nat.le_refl _)
      refine ⟨?_, hs⟩
      unfold ovF
      first | (rw [if_pos (by omega)]; done) | (rw [if_neg (by omega), if_pos (by omega)]; done) | (rw [if_neg (by omega), if_neg (by omega), if_pos (by omega)]; done) | (rw [if_neg (by omega), if_neg (by omega), if_neg (by omega)]; done)
  · skip
    refine j_iconst rfl ?_
    refine j_zret rfl rfl (by decide) ?_ rfl (Nat.le_refl _)
    refine ⟨?_, hs⟩
    unfold ovF
    first | (rw [if_pos (by omega)]; done) | (rw [if_neg (by omega), if_pos (by omega)]; done) | (rw [if_neg (by omega), if_neg (by omega), if_pos (by omega)]; done) | (rw [if_neg (by omega), if_neg (by omega), if_neg (by omega)]; done)

def gaF (m : AM) (k b : Int) : Nat → Int := fun l => ovF m k b l
theorem gaF_up {m : AM} {k b l : Int} (h : 0 ≤ l) : orL (gaF m k b) (l + 1).toNat = if ovF m k b l ≠ 0 then z_ior (orL (gaF m k b) l.toNat) (z_ishl 1 l) else orL (gaF m k b) l.toNat := by
  rw [orL_up h]
  unfold gaF
  rw [show ((l.toNat : Nat) : Int) = l by omega]
/-- the lines of a box that can go over -/
def gapX (m : AM) (k b : Int) : Int := orL (gaF m k b) (mi m 91 b.toNat).toNat
theorem gapX_rng (m : AM) (k b : Int) : -2147483648 ≤ gapX m k b ∧ gapX m k b < 2147483648 := orL_rng _ _

set_option maxRecDepth 20000 in
set_option maxHeartbeats 4000000 in
theorem lp_gapsOf_5 {G : QW} {m : AM} {k b : Int} (h : RS m) (hk0 : 0 ≤ k) (hk1 : k ≤ 1) (hb0 : 0 ≤ b) (hb : b < mi m 86 1) : ∀ (x : Nat) (l : Int) (M : AM), l + x = mi m 91 b.toNat → 0 ≤ l → SameP m M → qJ G mX12_gapsOf { frames := 4, cells := 0, slots := 0, locals := 60 * 4 } (qF G (fun r m' => r = some (vI (gapX m k b)) ∧ SameP m m') 0 0) 5 [(0, vR 86), (1, vI k), (2, vI b), (3, vI (orL (gaF m k b) l.toNat)), (4, vI l)] [] M 0 0 := by
  have hbx := h.1.i.s 86 1 0 6 (by decide)
  have h91 := h.1.i.a 91 0 12 (by decide) b.toNat
  intro x
  induction x with
  | zero =>
    intro l M hx hl0 hs
    have hM := h.of hs
    have e91 := hs.mi 91 b.toNat
    have e86 := hs.mi 86 1
    have hor := orL_rng (gaF m k b) l.toNat
    refine j_iload rfl rfl ?_
    refine j_aload_n rfl rfl ?_
    refine j_getR (q := 91) rfl f_X12_22 rfl (hM.1.s.lt (by decide)) (hM.1.s.k (by decide) (by decide)) (hM.1.s.r (by decide)) ?_
    refine j_iload_n rfl rfl ?_
    refine j_iald (n := 7) rfl (hM.1.s.lt (by decide)) (hM.1.s.k (by decide) (by decide)) (hM.1.s.n (by decide) (by decide)) (by omega) (by omega) (by decide) ?_
    have u12_1 := hM.1.i.a 91 (0) 12 (by decide) b.toNat
    refine j_icmp_ge (tgt := 40) rfl (by decide) (by omega) (by omega) (by omega) (by omega) (fun hb13_1 => ?_) (fun hb13_1 => ?_)
    · skip
      refine j_iload_n rfl rfl ?_
      refine j_iret rfl rfl ?_ rfl (Nat.le_refl _)
      rw [show l = mi m 91 b.toNat by omega]
      exact ⟨rfl, hs⟩
    · skip
      exfalso; omega
  | succ x ih =>
    intro l M hx hl0 hs
    have hM := h.of hs
    have e91 := hs.mi 91 b.toNat
    have e86 := hs.mi 86 1
    have hor := orL_rng (gaF m k b) l.toNat
    refine j_iload rfl rfl ?_
    refine j_aload_n rfl rfl ?_
    refine j_getR (q := 91) rfl f_X12_22 rfl (hM.1.s.lt (by decide)) (hM.1.s.k (by decide) (by decide)) (hM.1.s.r (by decide)) ?_
    refine j_iload_n rfl rfl ?_
    refine j_iald (n := 7) rfl (hM.1.s.lt (by decide)) (hM.1.s.k (by decide) (by decide)) (hM.1.s.n (by decide) (by decide)) (by omega) (by omega) (by decide) ?_
    have u12_1 := hM.1.i.a 91 (0) 12 (by decide) b.toNat
    refine j_icmp_ge (tgt := 40) rfl (by decide) (by omega) (by omega) (by omega) (by omega) (fun hb13_1 => ?_) (fun hb13_1 => ?_)
    · skip
      exfalso; omega
    · skip
      refine j_aload_n rfl rfl ?_
      refine j_iload_n rfl rfl ?_
      refine j_iload_n rfl rfl ?_
      refine j_iload rfl rfl ?_
      refine j_callV (ci := 12) rfl okX12_isOver c_X12_437 (ct_X12_isOver hM hk0 hk1 hb0 (by omega) (by omega) (by omega)) rfl rfl (hM.1.s.lt (by decide)) (hM.1.s.k (by decide) (by decide)) (by decide) rfl (Nat.le_of_ble_eq_true rfl) (by decide) (by decide) ?_
      rintro vq M2 ⟨e1, hs2⟩
      rw [e1, ovF_same hs]
      clear e1
      simp only [Option.toList_some, Option.toList_none, List.cons_append, List.nil_append]
      have h01 := ovF_01 m k b l
      have hs3 := hs.trans hs2
      have hM2 := h.of hs3
      refine j_if_eq (tgt := 34) rfl (by decide) (by omega) (by omega) (fun hb24_1 => ?_) (fun hb24_1 => ?_)
      · skip
        refine j_iinc rfl rfl (by decide) ?_
        refine j_goto (tgt := 5) rfl (by decide) ?_
        have hu : (orL (gaF m k b) l.toNat) = (orL (gaF m k b) (l + 1).toNat) := by rw [gaF_up hl0]; first | (rw [if_pos (by omega)]; done) | (rw [if_neg (by omega)]; done)
        refine j_loc (ls' := [(0, vR 86), (1, vI k), (2, vI b), (3, vI (orL (gaF m k b) (l + 1).toNat)), (4, vI (l + 1))]) (by rw [← hu]; rfl) ?_
        exact ih (l + 1) M2 (by omega) (by omega) hs3
      · skip
        refine j_iload_n rfl rfl ?_
        refine j_iconst rfl ?_
        refine j_iload rfl rfl ?_
        refine j_ishl rfl ?_
        have z31_1 := z_ishl_rng 1 l
        refine j_ior rfl ?_
        have z32_1 := z_ior_rng (orL (gaF m k b) l.toNat) (z_ishl 1 l)
        refine j_istore_n rfl (by decide) ?_
        refine j_iinc rfl rfl (by decide) ?_
        refine j_goto (tgt := 5) rfl (by decide) ?_
        have hu : z_ior (orL (gaF m k b) l.toNat) (z_ishl 1 l) = (orL (gaF m k b) (l + 1).toNat) := by rw [gaF_up hl0]; first | (rw [if_pos (by omega)]; done) | (rw [if_neg (by omega)]; done)
        refine j_loc (ls' := [(0, vR 86), (1, vI k), (2, vI b), (3, vI (orL (gaF m k b) (l + 1).toNat)), (4, vI (l + 1))]) (by rw [← hu]; rfl) ?_
        exact ih (l + 1) M2 (by omega) (by omega) hs3

theorem ct_X12_gapsOf {G : QW} {m : AM} {k b : Int} (h : RS m) (hk0 : 0 ≤ k) (hk1 : k ≤ 1) (hb0 : 0 ≤ b) (hb : b < mi m 86 1) : qM G mX12_gapsOf 4 0 0 [vR 86, vI k, vI b] m (fun r m' => r = some (vI (gapX m k b)) ∧ SameP m m') := by
  refine qM.intro okX12_gapsOf (Nat.le_of_ble_eq_true rfl) ?_
  have h91 := h.1.i.a 91 0 12 (by decide) b.toNat
  refine j_iconst rfl ?_
  refine j_istore_n rfl (by decide) ?_
  refine j_iconst rfl ?_
  refine j_istore rfl (by decide) ?_
  refine j_loc (ls' := [(0, vR 86), (1, vI k), (2, vI b), (3, vI 0), (4, vI 0)]) rfl ?_
  exact lp_gapsOf_5 h hk0 hk1 hb0 hb (mi m 91 b.toNat).toNat 0 m (by omega) (Int.le_refl 0) (SameP.rf m)

def gapR (m : AM) (k b : Int) : Int := if (0 ≤ k ∧ k ≤ 1) ∧ (0 ≤ b ∧ b < mi m 86 1) then gapX m k b else -1
def bouR (m : AM) (k b l what : Int) : Int :=
  if (0 ≤ k ∧ k ≤ 1) ∧ ((0 ≤ b ∧ b < mi m 86 1) ∧ 0 ≤ l ∧ l < mi m 91 b.toNat) ∧ (0 ≤ what ∧ what ≤ 1) then
    if (enX m k b l).1 = 0 then -2000000000 else if what = 0 then (enX m k b l).2.1 else (enX m k b l).2.2
  else -2000000000

set_option maxRecDepth 20000 in
theorem ct_X12_gaps {G : QW} {m : AM} {k b : Int} (h : RS m) (hk1 : -2147483648 ≤ k) (hk2 : k < 2147483648) (hb1 : -2147483648 ≤ b) (hb2 : b < 2147483648) : qM G mX12_gaps 5 0 0 [vR 86, vI k, vI b] m (fun r m' => r = some (vI (gapR m k b)) ∧ SameP m m') := by
  refine qM.intro okX12_gaps (Nat.le_of_ble_eq_true rfl) ?_
  refine j_iload_n rfl rfl ?_
  refine j_callS (As := [_]) rfl okX12_isMachine c_X12_399 (ct_X12_isMachine (by omega) (by omega)) rfl rfl (Nat.le_of_ble_eq_true rfl) (by decide) (by decide) ?_
  rintro vq mq ⟨e1, e2⟩
  rw [e1, e2]
  clear e1 e2
  simp only [Option.toList_some, Option.toList_none, List.cons_append, List.nil_append]
  refine j_bif_eq (tgt := 24) rfl (by decide) (fun hb4_1 => ?_) (fun hb4_1 => ?_)
  · skip
    refine j_iconst rfl ?_
    refine j_iret rfl rfl ?_ rfl (Nat.le_refl _)
    exact ⟨by unfold gapR; rw [if_neg (by omega)], SameP.rf m⟩
  · skip
    refine j_aload_n rfl rfl ?_
    refine j_iload_n rfl rfl ?_
    refine j_callV (ci := 12) rfl okX12_isBox c_X12_198 (ct_X12_isBox h.1.s h.1.i (by omega) (by omega)) rfl rfl (h.1.s.lt (by decide)) (h.1.s.k (by decide) (by decide)) (by decide) rfl (Nat.le_of_ble_eq_true rfl) (by decide) (by decide) ?_
    rintro vq mq ⟨e1, e2⟩
    rw [e1, e2]
    clear e1 e2
    simp only [Option.toList_some, Option.toList_none, List.cons_append, List.nil_append]
    have w1 := h.1.i.s 86 1 (0) 6 (by decide)
    refine j_bif_eq (tgt := 24) rfl (by decide) (fun hb12_1 => ?_) (fun hb12_1 => ?_)
    · skip
      refine j_iconst rfl ?_
      refine j_iret rfl rfl ?_ rfl (Nat.le_refl _)
      exact ⟨by unfold gapR; rw [if_neg (by omega)], SameP.rf m⟩
    · skip
      refine j_aload_n rfl rfl ?_
      refine j_iload_n rfl rfl ?_
      refine j_iload_n rfl rfl ?_
      refine j_callV (ci := 12) rfl okX12_gapsOf c_X12_440 (ct_X12_gapsOf h (by omega) (by omega) (by omega) (by omega)) rfl rfl (h.1.s.lt (by decide)) (h.1.s.k (by decide) (by decide)) (by decide) rfl (Nat.le_of_ble_eq_true rfl) (by decide) (by decide) ?_
      rintro vq M ⟨e1, hs⟩
      rw [e1]
      clear e1
      simp only [Option.toList_some, Option.toList_none, List.cons_append, List.nil_append]
      have hgr := gapX_rng m k b
      refine j_goto (tgt := 25) rfl (by decide) ?_
      refine j_iret rfl rfl ?_ rfl (Nat.le_refl _)
      exact ⟨by unfold gapR; rw [if_pos (by omega)], hs⟩

set_option maxRecDepth 20000 in
theorem ct_X12_bounds {G : QW} {m : AM} {k b l what : Int} (h : RS m) (hk1 : -2147483648 ≤ k) (hk2 : k < 2147483648) (hb1 : -2147483648 ≤ b) (hb2 : b < 2147483648) (hl1 : -2147483648 ≤ l) (hl2 : l < 2147483648) (hwhat1 : -2147483648 ≤ what) (hwhat2 : what < 2147483648) : qM G mX12_bounds 3 0 0 [vR 86, vI k, vI b, vI l, vI what] m (fun r m' => r = some (vI (bouR m k b l what)) ∧ SameP m m') := by
  refine qM.intro okX12_bounds (Nat.le_of_ble_eq_true rfl) ?_
  refine j_iload_n rfl rfl ?_
  refine j_callS (As := [_]) rfl okX12_isMachine c_X12_399 (ct_X12_isMachine (by omega) (by omega)) rfl rfl (Nat.le_of_ble_eq_true rfl) (by decide) (by decide) ?_
  rintro vq mq ⟨e1, e2⟩
  rw [e1, e2]
  clear e1 e2
  simp only [Option.toList_some, Option.toList_none, List.cons_append, List.nil_append]
  refine j_bif_eq (tgt := 36) rfl (by decide) (fun hb4_1 => ?_) (fun hb4_1 => ?_)
  · skip
    refine j_ldc (v := -2000000000) rfl k_X12_202 ?_
    refine j_iret rfl rfl ?_ rfl (Nat.le_refl _)
    refine ⟨?_, by first | exact SameP.rf m | exact hs⟩
    unfold bouR
    first | (rw [if_neg (by omega)]; done) | (rw [if_pos (by omega), if_pos (by omega)]; done)
  · skip
    refine j_aload_n rfl rfl ?_
    refine j_iload_n rfl rfl ?_
    refine j_iload_n rfl rfl ?_
    refine j_callV (ci := 12) rfl okX12_isLine c_X12_203 (ct_X12_isLine h.1.s h.1.i (by omega) (by omega) (by omega) (by omega)) rfl rfl (h.1.s.lt (by decide)) (h.1.s.k (by decide) (by decide)) (by decide) rfl (Nat.le_of_ble_eq_true rfl) (by decide) (by decide) ?_
    rintro vq mq ⟨e1, e2⟩
    rw [e1, e2]
    clear e1 e2
    simp only [Option.toList_some, Option.toList_none, List.cons_append, List.nil_append]
    have w1 := h.1.i.s 86 1 (0) 6 (by decide)
    have w2 := h.1.i.a 91 (0) 12 (by decide) b.toNat
    refine j_bif_eq (tgt := 36) rfl (by decide) (fun hb13_1 => ?_) (fun hb13_1 => ?_)
    · skip
      refine j_ldc (v := -2000000000) rfl k_X12_202 ?_
      refine j_iret rfl rfl ?_ rfl (Nat.le_refl _)
      refine ⟨?_, by first | exact SameP.rf m | exact hs⟩
      unfold bouR
      first | (rw [if_neg (by omega)]; done) | (rw [if_pos (by omega), if_pos (by omega)]; done)
    · skip
      refine j_iload rfl rfl ?_
      refine j_iconst rfl ?_
      refine j_iconst rfl ?_
      refine j_callS (As := [_, _, _]) rfl okX12_in c_X12_194 (ct_X12_in (by omega) (by omega) (by omega) (by omega) (by omega) (by omega)) rfl rfl (Nat.le_of_ble_eq_true rfl) (by decide) (by decide) ?_
      rintro vq mq ⟨e1, e2⟩
      rw [e1, e2]
      clear e1 e2
      simp only [Option.toList_some, Option.toList_none, List.cons_append, List.nil_append]
      refine j_bif_eq (tgt := 36) rfl (by decide) (fun hb23_1 => ?_) (fun hb23_1 => ?_)
      · skip
        refine j_ldc (v := -2000000000) rfl k_X12_202 ?_
        refine j_iret rfl rfl ?_ rfl (Nat.le_refl _)
        refine ⟨?_, by first | exact SameP.rf m | exact hs⟩
        unfold bouR
        first | (rw [if_neg (by omega)]; done) | (rw [if_pos (by omega), if_pos (by omega)]; done)
      · skip
        refine j_aload_n rfl rfl ?_
        refine j_iload_n rfl rfl ?_
        refine j_iload_n rfl rfl ?_
        refine j_iload_n rfl rfl ?_
        refine j_callV (ci := 12) rfl okX12_findEnds c_X12_434 (ct_X12_findEndsX h (by omega) (by omega) (by omega) (by omega) (by omega) (by omega)) rfl rfl (h.1.s.lt (by decide)) (h.1.s.k (by decide) (by decide)) (by decide) rfl (Nat.le_of_ble_eq_true rfl) (by decide) (by decide) ?_
        rintro vq M ⟨hs, e1, h3⟩
        rw [e1]
        clear e1
        simp only [Option.toList_some, Option.toList_none, List.cons_append, List.nil_append]
        have h01 := enX_01 m k b l
        have hM := h.of hs
        refine j_if_ne (tgt := 39) rfl (by decide) (by omega) (by omega) (fun hb33_1 => ?_) (fun hb33_1 => ?_)
        · skip
          obtain ⟨⟨g1, g2⟩, g3, g4⟩ := h3 (by omega)
          have g1 : ml M 126 (0 : Int).toNat = (enX m k b l).2.1 := g1
          have g2 : ml M 127 (0 : Int).toNat = (enX m k b l).2.2 := g2
          refine j_iload rfl rfl ?_
          refine j_if_ne (tgt := 53) rfl (by decide) (by omega) (by omega) (fun hb41_1 => ?_) (fun hb41_1 => ?_)
          · skip
            refine j_aload_n rfl rfl ?_
            refine j_getR (q := 127) rfl f_X12_133 rfl (hM.1.s.lt (by decide)) (hM.1.s.k (by decide) (by decide)) (hM.1.s.r (by decide)) ?_
            refine j_iconst rfl ?_
            refine j_lald (n := 170) rfl (hM.1.s.lt (by decide)) (hM.1.s.k (by decide) (by decide)) (hM.1.s.n (by decide) (by decide)) (by omega) (by omega) (by decide) ?_
            have u58_1 := ml_rng M 127 (0 : Int).toNat
            refine j_l2iW rfl ?_
            have z59_1 := z_l2i_rng (ml M 127 (0 : Int).toNat)
            refine j_iret rfl rfl ?_ rfl (Nat.le_refl _)
            exact ⟨by rw [z_l2i_of (by omega) (by omega), g2]; unfold bouR; rw [if_pos (by omega), if_neg (by omega), if_neg (by omega)], hs⟩
          · skip
            refine j_aload_n rfl rfl ?_
            refine j_getR (q := 126) rfl f_X12_130 rfl (hM.1.s.lt (by decide)) (hM.1.s.k (by decide) (by decide)) (hM.1.s.r (by decide)) ?_
            refine j_iconst rfl ?_
            refine j_lald (n := 170) rfl (hM.1.s.lt (by decide)) (hM.1.s.k (by decide) (by decide)) (hM.1.s.n (by decide) (by decide)) (by omega) (by omega) (by decide) ?_
            have u49_1 := ml_rng M 126 (0 : Int).toNat
            refine j_goto (tgt := 59) rfl (by decide) ?_
            refine j_l2iW rfl ?_
            have z59_2 := z_l2i_rng (ml M 126 (0 : Int).toNat)
            refine j_iret rfl rfl ?_ rfl (Nat.le_refl _)
            exact ⟨by rw [z_l2i_of (by omega) (by omega), g1]; unfold bouR; rw [if_pos (by omega), if_neg (by omega), if_pos (by omega)], hs⟩
        · skip
          refine j_ldc (v := -2000000000) rfl k_X12_202 ?_
          refine j_iret rfl rfl ?_ rfl (Nat.le_refl _)
          refine ⟨?_, by first | exact SameP.rf m | exact hs⟩
          unfold bouR
          first | (rw [if_neg (by omega)]; done) | (rw [if_pos (by omega), if_pos (by omega)]; done)


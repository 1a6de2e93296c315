/-- how many bits: a number less its lowest one, till it is 0 -/
def popL : Nat → Int → Int
  | 0, _ => 0
  | k + 1, x => if x = 0 then 0 else 1 + popL k (z_iand x (x - 1))
def popZ : Nat → Int → Bool
  | 0, x => x == 0
  | k + 1, x => x == 0 || (decide (0 < x ∧ x < 256) && popZ k (z_iand x (x - 1)))
theorem popZ_8 : ∀ x : Nat, x < 256 → popZ 8 (x : Int) = true := by decide +kernel
def bcX (x : Int) : Int := popL 8 x
theorem popL_rng : ∀ (k : Nat) (x : Int), 0 ≤ popL k x ∧ popL k x ≤ k := by
  intro k
  induction k with
  | zero => intro x; exact (by decide : 0 ≤ (0 : Int) ∧ (0 : Int) ≤ ((0 : Nat) : Int))
  | succ k ih =>
    intro x
    unfold popL
    have := ih (z_iand x (x - 1))
    split <;> omega
theorem bcX_rng (x : Int) : 0 ≤ bcX x ∧ bcX x ≤ 8 := popL_rng 8 x

set_option maxRecDepth 20000 in
theorem lp_bitsOf_4 {G : QW} {m : AM} {x E : Int} : ∀ (k : Nat) (a y : Int), 0 ≤ a → a + k ≤ 8 → popZ k y = true → a + popL k y = E → qJ G mX12_bitsOf { frames := 0, cells := 0, slots := 0, locals := 60 * 0 } (qF G (fun r m' => r = some (vI E) ∧ m' = m) 0 0) 4 [(0, vI x), (1, vI a), (2, vI y)] [] m 0 0 := by
  intro k
  induction k with
  | zero =>
    intro a y ha hk hz hE
    have hz : y = 0 := by simpa [popZ] using hz
    have hE : a = E := by rw [← hE]; show a = a + 0; omega
    refine j_iload_n rfl rfl ?_
    refine j_if_eq (tgt := 20) rfl (by decide) (by omega) (by omega) (fun hb5_1 => ?_) (fun hb5_1 => ?_)
    · skip
      refine j_iload_n rfl rfl ?_
      refine j_iret rfl rfl ?_ rfl (Nat.le_refl _)
      subst hE
      exact ⟨rfl, rfl⟩
    · skip
      exfalso; omega
  | succ k ih =>
    intro a y ha hk hz hE
    have hz : y = 0 ∨ ((0 < y ∧ y < 256) ∧ popZ k (z_iand y (y - 1)) = true) := by simpa [popZ] using hz
    simp only [popL] at hE
    by_cases hy : y = 0
    · rw [if_pos hy] at hE
      have hE : a = E := by omega
      refine j_iload_n rfl rfl ?_
      refine j_if_eq (tgt := 20) rfl (by decide) (by omega) (by omega) (fun hb5_1 => ?_) (fun hb5_1 => ?_)
      · skip
        refine j_iload_n rfl rfl ?_
        refine j_iret rfl rfl ?_ rfl (Nat.le_refl _)
        subst hE
        exact ⟨rfl, rfl⟩
      · skip
        exfalso; omega
    · rw [if_neg hy] at hE
      have hyr := (hz.resolve_left hy).1
      refine j_iload_n rfl rfl ?_
      refine j_if_eq (tgt := 20) rfl (by decide) (by omega) (by omega) (fun hb5_1 => ?_) (fun hb5_1 => ?_)
      · skip
        exfalso; omega
      · skip
        refine j_iinc rfl rfl (by decide) ?_
        refine j_iload_n rfl rfl ?_
        refine j_iload_n rfl rfl ?_
        refine j_iconst rfl ?_
        refine j_isub rfl ?_
        refine j_iand rfl ?_
        have z15_1 := z_iand_rng y (y - 1)
        refine j_istore_n rfl (by decide) ?_
        refine j_goto (tgt := 4) rfl (by decide) ?_
        refine j_loc (ls' := [(0, vI x), (1, vI (a + 1)), (2, vI (z_iand y (y - 1)))]) rfl ?_
        exact ih (a + 1) (z_iand y (y - 1)) (by omega) (by omega) (hz.resolve_left hy).2 (by rw [show a + 1 + popL k (z_iand y (y - 1)) = a + (1 + popL k (z_iand y (y - 1))) by omega]; exact hE)

theorem ct_X12_bitsOf {G : QW} {m : AM} {x : Int} (hx0 : 0 ≤ x) (hx1 : x < 256) : qM G mX12_bitsOf 0 0 0 [vI x] m (fun r m' => r = some (vI (bcX x)) ∧ m' = m) := by
  refine qM.intro okX12_bitsOf (Nat.le_of_ble_eq_true rfl) ?_
  refine j_iconst rfl ?_
  refine j_istore_n rfl (by decide) ?_
  refine j_iload_n rfl rfl ?_
  refine j_istore_n rfl (by decide) ?_
  refine j_loc (ls' := [(0, vI x), (1, vI 0), (2, vI x)]) rfl ?_
  refine lp_bitsOf_4 8 0 x (by decide) (by decide) ?_ (Int.zero_add _)
  have := popZ_8 x.toNat (by omega)
  rw [show ((x.toNat : Nat) : Int) = x by omega] at this
  exact this

/-- the flights of a set from f on: 1 if a box outlives them all -/
def ivL (b fs n : Int) : Nat → Int → AM → Int × AM
  | 0, _, N => (1, N)
  | c + 1, f, N =>
    if z_iand (z_ishr fs f) 1 = 0 then ivL b fs n c (f + 1) N
    else if mi (roM N f n) 111 b.toNat ≠ 0 then (0, roM N f n) else ivL b fs n c (f + 1) (roM N f n)
theorem ivL_same (b fs n : Int) : ∀ (c : Nat) (f : Int) (N M : AM), SameP N M → (ivL b fs n c f M).1 = (ivL b fs n c f N).1 ∧ SameP (ivL b fs n c f N).2 (ivL b fs n c f M).2 := by
  intro c
  induction c with
  | zero => intro f N M h; exact ⟨rfl, h⟩
  | succ c ih =>
    intro f N M h
    have g := roM_same h f n
    simp only [ivL, g.mi 111]
    split
    · exact ih _ _ _ h
    · split
      · exact ⟨rfl, g⟩
      · exact ih _ _ _ g
theorem ivL_keep {m : AM} {b fs n : Int} (hn0 : 0 ≤ n) (hn : n ≤ 200) : ∀ (c : Nat) (f : Int) (N : AM), RI N → FR m N → RI (ivL b fs n c f N).2 ∧ FR m (ivL b fs n c f N).2 ∧ 0 ≤ (ivL b fs n c f N).1 ∧ (ivL b fs n c f N).1 ≤ 1 := by
  intro c
  induction c with
  | zero => intro f N h h2; exact ⟨h, h2, by show (0 : Int) ≤ 1; decide, Int.le_refl _⟩
  | succ c ih =>
    intro f N h h2
    unfold ivL
    split
    · exact ih _ _ h h2
    · split
      · exact ⟨h.run hn0 hn, h2.run f n, Int.le_refl _, by show (0 : Int) ≤ 1; decide⟩
      · exact ih _ _ (h.run hn0 hn) (h2.run f n)

set_option maxRecDepth 20000 in
set_option maxHeartbeats 4000000 in
theorem lp_isNeverDead_3 {G : QW} {m : AM} {b fs n : Int} {E : Int × AM} (hb0 : 0 ≤ b) (hb5 : b ≤ 5) (hn0 : 1 ≤ n) (hn : n ≤ 200) (hfs0 : 0 ≤ fs) (hfs1 : fs < 2147483648) (hfl : mi m 86 21 ≤ 8) : ∀ (c : Nat) (f : Int) (N M : AM), f + c = mi m 86 21 → 0 ≤ f → FR m N → RI N → SameP N M → ivL b fs n c f N = E → qJ G mX12_isNeverDead { frames := 6, cells := 0, slots := 0, locals := 60 * 6 } (qF G (fun r m' => r = some (vI E.1) ∧ SameP E.2 m') 0 0) 3 [(0, vR 86), (1, vI b), (2, vI fs), (3, vI n), (4, vI f)] [] M 0 0 := by
  intro c
  induction c with
  | zero =>
    intro f N M hc hf0 hfr hRN hs hE
    have hRM := hRN.of hs
    have hS := hRM.s
    have hI := hRM.i
    have e21 : mi M 86 21 = mi m 86 21 := (hs.mi 86 21).trans (hfr.cell (by decide) (by omega))
    have hE : (1, N) = E := hE
    refine j_iload rfl rfl ?_
    refine j_aload_n rfl rfl ?_
    refine j_getI rfl f_X12_267 rfl (hS.lt (by decide)) (hS.k (by decide) (by decide)) ?_
    have u6_1 := hI.s 86 21 (0) 8 (by decide)
    refine j_icmp_ge (tgt := 48) rfl (by decide) (by omega) (by omega) (by omega) (by omega) (fun hb9_1 => ?_) (fun hb9_1 => ?_)
    · skip
      refine j_iconst rfl ?_
      refine j_zret rfl rfl (by decide) ?_ rfl (Nat.le_refl _)
      subst hE
      exact ⟨rfl, hs⟩
    · skip
      exfalso; omega
  | succ c ih =>
    intro f N M hc hf0 hfr hRN hs hE
    have hRM := hRN.of hs
    have hS := hRM.s
    have hI := hRM.i
    have e21 : mi M 86 21 = mi m 86 21 := (hs.mi 86 21).trans (hfr.cell (by decide) (by omega))
    simp only [ivL] at hE
    refine j_iload rfl rfl ?_
    refine j_aload_n rfl rfl ?_
    refine j_getI rfl f_X12_267 rfl (hS.lt (by decide)) (hS.k (by decide) (by decide)) ?_
    have u6_1 := hI.s 86 21 (0) 8 (by decide)
    refine j_icmp_ge (tgt := 48) rfl (by decide) (by omega) (by omega) (by omega) (by omega) (fun hb9_1 => ?_) (fun hb9_1 => ?_)
    · skip
      exfalso; omega
    · skip
      refine j_iload_n rfl rfl ?_
      refine j_iload rfl rfl ?_
      refine j_ishr rfl ?_
      have z15_1 := z_ishr_rng fs f
      refine j_iconst rfl ?_
      refine j_iand rfl ?_
      have z17_1 := z_iand_rng (z_ishr fs f) 1
      refine j_if_ne (tgt := 24) rfl (by decide) (by omega) (by omega) (fun hb18_1 => ?_) (fun hb18_1 => ?_)
      · skip
        refine j_aload_n rfl rfl ?_
        refine j_iload rfl rfl ?_
        refine j_iload_n rfl rfl ?_
        refine j_callV (ci := 12) rfl okX12_runOf c_X12_389 (ct_X12_runOfI hRM (by omega) (by omega) (by omega) (by omega)) rfl rfl (hS.lt (by decide)) (hS.k (by decide) (by decide)) (by decide) rfl (Nat.le_of_ble_eq_true rfl) (by decide) (by decide) ?_
        rintro vq M2 ⟨e1, hs2⟩
        rw [e1]
        clear e1
        simp only [Option.toList_some, Option.toList_none, List.cons_append, List.nil_append]
        have g : SameP (roM N f n) M2 := (roM_same hs f n).trans hs2
        have hRN2 : RI (roM N f n) := hRN.run (by omega) (by omega)
        have hR2 := hRN2.of g
        have e111 := g.mi 111 b.toNat
        rw [if_neg (by omega)] at hE
        refine j_aload_n rfl rfl ?_
        refine j_getR (q := 111) rfl f_X12_84 rfl (hR2.s.lt (by decide)) (hR2.s.k (by decide) (by decide)) (hR2.s.r (by decide)) ?_
        refine j_iload_n rfl rfl ?_
        refine j_zald (n := 6) rfl (hR2.s.lt (by decide)) (hR2.s.k (by decide) (by decide)) (hR2.s.n (by decide) (by decide)) (by omega) (by omega) (by decide) ?_
        have u36_1 := mi_rng M2 111 b.toNat
        refine j_if_eq (tgt := 42) rfl (by decide) (by omega) (by omega) (fun hb37_1 => ?_) (fun hb37_1 => ?_)
        · skip
          refine j_iinc rfl rfl (by decide) ?_
          refine j_goto (tgt := 3) rfl (by decide) ?_
          refine j_loc (ls' := [(0, vR 86), (1, vI b), (2, vI fs), (3, vI n), (4, vI (f + 1))]) rfl ?_
          rw [if_neg (by omega)] at hE
          exact ih (f + 1) (roM N f n) M2 (by omega) (by omega) (hfr.run f n) hRN2 g hE
        · skip
          refine j_iconst rfl ?_
          refine j_zret rfl rfl (by decide) ?_ rfl (Nat.le_refl _)
          rw [if_pos (by omega)] at hE
          subst hE
          exact ⟨rfl, g⟩
      · skip
        refine j_goto (tgt := 42) rfl (by decide) ?_
        refine j_iinc rfl rfl (by decide) ?_
        refine j_goto (tgt := 3) rfl (by decide) ?_
        refine j_loc (ls' := [(0, vR 86), (1, vI b), (2, vI fs), (3, vI n), (4, vI (f + 1))]) rfl ?_
        rw [if_pos (by omega)] at hE
        exact ih (f + 1) N M (by omega) (by omega) hfr hRN hs hE

theorem ct_X12_isNeverDead {G : QW} {m : AM} {b fs n : Int} (h : RI m) (hb0 : 0 ≤ b) (hb5 : b ≤ 5) (hn0 : 1 ≤ n) (hn : n ≤ 200) (hfs0 : 0 ≤ fs) (hfs1 : fs < 2147483648) : qM G mX12_isNeverDead 6 0 0 [vR 86, vI b, vI fs, vI n] m (fun r m' => r = some (vI (ivL b fs n (mi m 86 21).toNat 0 m).1) ∧ SameP (ivL b fs n (mi m 86 21).toNat 0 m).2 m') := by
  refine qM.intro okX12_isNeverDead (Nat.le_of_ble_eq_true rfl) ?_
  have hS := h.s
  have hI := h.i
  have hfl := hI.s 86 21 0 8 (by decide)
  refine j_iconst rfl ?_
  refine j_istore rfl (by decide) ?_
  refine j_loc (ls' := [(0, vR 86), (1, vI b), (2, vI fs), (3, vI n), (4, vI 0)]) rfl ?_
  exact lp_isNeverDead_3 (m := m) hb0 hb5 hn0 hn hfs0 hfs1 (by omega) (mi m 86 21).toNat 0 m m (by omega) (Int.le_refl 0) (FR.rf m) h (SameP.rf m) rfl


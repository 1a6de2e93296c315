def finM (N : AM) (a b c : Int) : AM := si (si (si (si N 125 0 a) 125 1 b) 125 2 c) 86 62 1
theorem SameP.fin {m M : AM} (h : SameP m M) (a b c : Int) : SameP (finM m a b c) (finM M a b c) := (((h.si _ _ _).si _ _ _).si _ _ _).si _ _ _
/-- beginnings from the third one on: found or not, how many ahead, the memory -/
def alC (f n a b : Int) : Nat → Int → Int → AM → Int × Int × AM
  | 0, _, h, N => (0, h, N)
  | x + 1, c, h, N => if (goM N f n a b c).1 ≠ 0 then (1, h, finM (goM N f n a b c).2 a b c) else alC f n a b x (c + 1) (h + 1) (goM N f n a b c).2
def alB (f n a w2 l2 : Int) : Nat → Int → Int → AM → Int × Int × AM
  | 0, _, h, N => (0, h, N)
  | x + 1, b, h, N => if (alC f n a b w2.toNat l2 h N).1 ≠ 0 then alC f n a b w2.toNat l2 h N else alB f n a w2 l2 x (b + 1) (alC f n a b w2.toNat l2 h N).2.1 (alC f n a b w2.toNat l2 h N).2.2
def alA (f n w1 l1 w2 l2 : Int) : Nat → Int → Int → AM → Int × Int × AM
  | 0, _, h, N => (0, h, N)
  | x + 1, a, h, N => if (alB f n a w2 l2 w1.toNat l1 h N).1 ≠ 0 then alB f n a w2 l2 w1.toNat l1 h N else alA f n w1 l1 w2 l2 x (a + 1) (alB f n a w2 l2 w1.toNat l1 h N).2.1 (alB f n a w2 l2 w1.toNat l1 h N).2.2
theorem alC_n {f n a b : Int} : ∀ (x : Nat) (c h : Int) (N : AM), (alC f n a b x c h N).1 = 0 → (alC f n a b x c h N).2.1 = h + x := by
  intro x
  induction x with
  | zero => intro c h N _; show h = h + ((0 : Nat) : Int); omega
  | succ x ih =>
    intro c h N
    simp only [alC]
    split
    · intro q; exact absurd q (by dsimp only; decide)
    · intro q; rw [ih _ _ _ q]; omega
theorem alB_n {f n a w2 l2 : Int} (hw : 0 ≤ w2) : ∀ (x : Nat) (b h : Int) (N : AM), (alB f n a w2 l2 x b h N).1 = 0 → (alB f n a w2 l2 x b h N).2.1 = h + x * w2 := by
  intro x
  induction x with
  | zero => intro b h N _; show h = h + ((0 : Nat) : Int) * w2; rw [show ((0 : Nat) : Int) * w2 = 0 from Int.zero_mul _]; omega
  | succ x ih =>
    intro b h N
    simp only [alB]
    split
    · next q0 => intro q; exact absurd q q0
    · next q0 =>
      intro q
      rw [ih _ _ _ q, alC_n _ _ _ _ (by omega)]
      have e : ((x + 1 : Nat) : Int) * w2 = (x : Int) * w2 + w2 := by
        rw [show ((x + 1 : Nat) : Int) = (x : Int) + 1 by omega, Int.add_mul, Int.one_mul]
      rw [e]
      omega
/-- how wide a span is -/
def wdX (m : AM) (k : Int) : Int := ((mi m 124 k.toNat - mi m 123 k.toNat) + 1)
def manyS (m : AM) (k : Int) : Int := ((1 * wdX m (3 * k)) * wdX m ((3 * k) + 1)) * wdX m (((3 * k) + 1) + 1)
def alE (m : AM) (k f n : Int) : Int × Int × AM := alA f n (wdX m ((3 * k) + 1)) (mi m 123 ((3 * k) + 1).toNat) (wdX m ((3 * k) + 2)) (mi m 123 ((3 * k) + 2).toNat) (wdX m (3 * k)).toNat (mi m 123 (3 * k).toNat) 0 (aiM m)
/-- all() of the reference -/
def allR (m : AM) (k f n : Int) : Int × AM :=
  if (0 ≤ k ∧ k ≤ 1) ∧ (0 ≤ f ∧ f < mi m 86 21) ∧ (1 ≤ n ∧ n ≤ 200) then
    if manyS m k > 2000 then (-4, m) else (if (alE m k f n).1 ≠ 0 then (alE m k f n).2.1 else -2, (alE m k f n).2.2)
  else (-1, m)

set_option maxRecDepth 20000 in
set_option maxHeartbeats 4000000 in
theorem lp_all_152 {G : QW} {m : AM} {k f n w a b : Int} {E : Int × Int × AM} {Rp : Option Vl → AM → Prop} (hk0 : 0 ≤ k) (hk1 : k ≤ 1) (hf0 : 0 ≤ f) (hf7 : f ≤ 7) (hn0 : 1 ≤ n) (hn : n ≤ 200) (ha0 : -99999 ≤ a) (ha1 : a ≤ 99999) (hb0 : -99999 ≤ b) (hb1 : b ≤ 99999) (hlo : -99999 ≤ mi m 123 ((3 * k) + 2).toNat) (hhi : mi m 124 ((3 * k) + 2).toNat ≤ 99999) (hfound : ∀ M, SameP E.2.2 M → E.1 ≠ 0 → Rp (some (vI E.2.1)) M)
    (hnone : ∀ M, FR m E.2.2 → RI E.2.2 → SameP E.2.2 M → E.1 = 0 → qJ G mX12_all { frames := 10, cells := 0, slots := 0, locals := 60 * 10 } (qF G Rp 0 0) 223 [(0, vR 86), (1, vI k), (2, vI f), (3, vI n), (4, vL w), (6, vI E.2.1), (7, vI a), (8, vI b)] [] M 0 0) : ∀ (x : Nat) (c h : Int) (N M : AM), FR m N → RI N → SameP N M → c + x = mi m 124 ((3 * k) + 2).toNat + 1 → -99999 ≤ c → 0 ≤ h → h + x ≤ 2000000000 → alC f n a b x c h N = E → qJ G mX12_all { frames := 10, cells := 0, slots := 0, locals := 60 * 10 } (qF G Rp 0 0) 152 [(0, vR 86), (1, vI k), (2, vI f), (3, vI n), (4, vL w), (6, vI h), (7, vI a), (8, vI b), (9, vI c)] [] M 0 0 := by
  intro x
  induction x with
  | zero =>
    intro c h N M hfr hRN hs hx hc0 hh0 hhx hE
    have hRM := hRN.of hs
    have eL : ∀ j, mi M 123 j = mi m 123 j := fun j => (hs.mi 123 j).trans (hfr.cell (by decide) (by omega))
    have eH : ∀ j, mi M 124 j = mi m 124 j := fun j => (hs.mi 124 j).trans (hfr.cell (by decide) (by omega))
    have eL0 := eL (3 * k).toNat
    have eL1 := eL ((3 * k) + 1).toNat
    have eL2 := eL ((3 * k) + 2).toNat
    have eH0 := eH (3 * k).toNat
    have eH1 := eH ((3 * k) + 1).toNat
    have eH2 := eH ((3 * k) + 2).toNat
    have hE : (0, h, N) = E := hE
    refine j_iload rfl rfl ?_
    refine j_aload_n rfl rfl ?_
    refine j_getR (q := 124) rfl f_X12_124 rfl (hRM.s.lt (by decide)) (hRM.s.k (by decide) (by decide)) (hRM.s.r (by decide)) ?_
    refine j_iconst rfl ?_
    refine j_iload_n rfl rfl ?_
    refine j_imul rfl ?_
    refine j_iconst rfl ?_
    refine j_iadd rfl ?_
    refine j_iald (n := 6) rfl (hRM.s.lt (by decide)) (hRM.s.k (by decide) (by decide)) (hRM.s.n (by decide) (by decide)) (by omega) (by omega) (by decide) ?_
    have u163_1 := hRM.i.a 124 (-99999) 99999 (by decide) ((3 * k) + 2).toNat
    refine j_icmp_gt (tgt := 223) rfl (by decide) (by omega) (by omega) (by omega) (by omega) (fun hb164_1 => ?_) (fun hb164_1 => ?_)
    · skip
      subst hE
      refine j_loc (ls' := [(0, vR 86), (1, vI k), (2, vI f), (3, vI n), (4, vL w), (6, vI h), (7, vI a), (8, vI b)]) rfl ?_
      exact hnone M hfr hRN hs rfl
    · skip
      exfalso; omega
  | succ x ih =>
    intro c h N M hfr hRN hs hx hc0 hh0 hhx hE
    have hRM := hRN.of hs
    have eL : ∀ j, mi M 123 j = mi m 123 j := fun j => (hs.mi 123 j).trans (hfr.cell (by decide) (by omega))
    have eH : ∀ j, mi M 124 j = mi m 124 j := fun j => (hs.mi 124 j).trans (hfr.cell (by decide) (by omega))
    have eL0 := eL (3 * k).toNat
    have eL1 := eL ((3 * k) + 1).toNat
    have eL2 := eL ((3 * k) + 2).toNat
    have eH0 := eH (3 * k).toNat
    have eH1 := eH ((3 * k) + 1).toNat
    have eH2 := eH ((3 * k) + 2).toNat
    simp only [alC] at hE
    refine j_iload rfl rfl ?_
    refine j_aload_n rfl rfl ?_
    refine j_getR (q := 124) rfl f_X12_124 rfl (hRM.s.lt (by decide)) (hRM.s.k (by decide) (by decide)) (hRM.s.r (by decide)) ?_
    refine j_iconst rfl ?_
    refine j_iload_n rfl rfl ?_
    refine j_imul rfl ?_
    refine j_iconst rfl ?_
    refine j_iadd rfl ?_
    refine j_iald (n := 6) rfl (hRM.s.lt (by decide)) (hRM.s.k (by decide) (by decide)) (hRM.s.n (by decide) (by decide)) (by omega) (by omega) (by decide) ?_
    have u163_1 := hRM.i.a 124 (-99999) 99999 (by decide) ((3 * k) + 2).toNat
    refine j_icmp_gt (tgt := 223) rfl (by decide) (by omega) (by omega) (by omega) (by omega) (fun hb164_1 => ?_) (fun hb164_1 => ?_)
    · skip
      exfalso; omega
    · skip
      refine j_aload_n rfl rfl ?_
      refine j_iload_n rfl rfl ?_
      refine j_iload_n rfl rfl ?_
      refine j_iload rfl rfl ?_
      refine j_iload rfl rfl ?_
      refine j_iload rfl rfl ?_
      refine j_callV (ci := 12) rfl okX12_goesOver c_X12_404 (ct_X12_goesOver hRM hf0 hf7 (by omega) hn (by omega) (by omega) (by omega) (by omega) (by omega) (by omega)) rfl rfl (hRM.s.lt (by decide)) (hRM.s.k (by decide) (by decide)) (by decide) rfl (Nat.le_of_ble_eq_true rfl) (by decide) (by decide) ?_
      rintro vq M2 ⟨e1, hs2⟩
      rw [e1]
      clear e1
      simp only [Option.toList_some, Option.toList_none, List.cons_append, List.nil_append]
      have g0 := goM_same hs f n a b c
      have g := And.intro g0.1 (g0.2.trans hs2)
      rw [g.1]
      have hK := goM_keep hRN (f := f) (n := n) (a := a) (b := b) (c := c) (by omega) hn
      have hR2 := hK.1.of g.2
      have hKr := hK.2.2
      refine j_if_eq (tgt := 214) rfl (by decide) (by omega) (by omega) (fun hb179_1 => ?_) (fun hb179_1 => ?_)
      · skip
        refine j_iinc rfl rfl (by decide) ?_
        refine j_iinc rfl rfl (by decide) ?_
        refine j_goto (tgt := 152) rfl (by decide) ?_
        rw [if_neg (by omega)] at hE
        refine j_loc (ls' := [(0, vR 86), (1, vI k), (2, vI f), (3, vI n), (4, vL w), (6, vI (h + 1)), (7, vI a), (8, vI b), (9, vI (c + 1))]) rfl ?_
        exact ih (c + 1) (h + 1) _ M2 (hfr.trans hK.2.1) hK.1 g.2 (by omega) (by omega) (by omega) (by omega) hE
      · skip
        refine j_aload_n rfl rfl ?_
        refine j_getR (q := 125) rfl f_X12_127 rfl (hR2.s.lt (by decide)) (hR2.s.k (by decide) (by decide)) (hR2.s.r (by decide)) ?_
        refine j_iconst rfl ?_
        refine j_iload rfl rfl ?_
        refine j_iast (n := 3) rfl (hR2.s.lt (by decide)) (hR2.s.k (by decide) (by decide)) (hR2.s.n (by decide) (by decide)) (by omega) (by omega) (by first | decide | omega) ?_
        refine j_aload_n rfl rfl ?_
        refine j_getR (q := 125) rfl f_X12_127 rfl (hR2.s.lt (by decide)) (hR2.s.k (by decide) (by decide)) (hR2.s.r (by decide)) ?_
        refine j_iconst rfl ?_
        refine j_iload rfl rfl ?_
        refine j_iast (n := 3) rfl (hR2.s.lt (by decide)) (hR2.s.k (by decide) (by decide)) (hR2.s.n (by decide) (by decide)) (by omega) (by omega) (by first | decide | omega) ?_
        refine j_aload_n rfl rfl ?_
        refine j_getR (q := 125) rfl f_X12_127 rfl (hR2.s.lt (by decide)) (hR2.s.k (by decide) (by decide)) (hR2.s.r (by decide)) ?_
        refine j_iconst rfl ?_
        refine j_iload rfl rfl ?_
        refine j_iast (n := 3) rfl (hR2.s.lt (by decide)) (hR2.s.k (by decide) (by decide)) (hR2.s.n (by decide) (by decide)) (by omega) (by omega) (by first | decide | omega) ?_
        refine j_aload_n rfl rfl ?_
        refine j_iconst rfl ?_
        refine j_putZ rfl f_X12_408 (by omega) rfl (hR2.s.lt (by decide)) (hR2.s.k (by decide) (by decide)) ?_
        refine j_iload rfl rfl ?_
        refine j_iret rfl rfl ?_ rfl (Nat.le_refl _)
        rw [if_pos (by omega)] at hE
        subst hE
        exact hfound _ (g.2.fin a b c) (by dsimp only; decide)

set_option maxRecDepth 20000 in
set_option maxHeartbeats 4000000 in
theorem lp_all_125 {G : QW} {m : AM} {k f n w a : Int} {E : Int × Int × AM} {Rp : Option Vl → AM → Prop} (hk0 : 0 ≤ k) (hk1 : k ≤ 1) (hf0 : 0 ≤ f) (hf7 : f ≤ 7) (hn0 : 1 ≤ n) (hn : n ≤ 200) (ha0 : -99999 ≤ a) (ha1 : a ≤ 99999) (hlo : ∀ j, -99999 ≤ mi m 123 j ∧ mi m 123 j ≤ 99999) (hhi : ∀ j, -99999 ≤ mi m 124 j ∧ mi m 124 j ≤ 99999) (hw2 : 0 ≤ (wdX m ((3 * k) + 2))) (hfound : ∀ M, SameP E.2.2 M → E.1 ≠ 0 → Rp (some (vI E.2.1)) M)
    (hnone : ∀ M, FR m E.2.2 → RI E.2.2 → SameP E.2.2 M → E.1 = 0 → qJ G mX12_all { frames := 10, cells := 0, slots := 0, locals := 60 * 10 } (qF G Rp 0 0) 229 [(0, vR 86), (1, vI k), (2, vI f), (3, vI n), (4, vL w), (6, vI E.2.1), (7, vI a)] [] M 0 0) : ∀ (x : Nat) (b h : Int) (N M : AM), FR m N → RI N → SameP N M → b + x = mi m 124 ((3 * k) + 1).toNat + 1 → -99999 ≤ b → 0 ≤ h → h + x * (wdX m ((3 * k) + 2)) ≤ 2000000000 → alB f n a (wdX m ((3 * k) + 2)) (mi m 123 ((3 * k) + 2).toNat) x b h N = E → qJ G mX12_all { frames := 10, cells := 0, slots := 0, locals := 60 * 10 } (qF G Rp 0 0) 125 [(0, vR 86), (1, vI k), (2, vI f), (3, vI n), (4, vL w), (6, vI h), (7, vI a), (8, vI b)] [] M 0 0 := by
  have hlo2 := hlo ((3 * k) + 2).toNat
  have hhi2 := hhi ((3 * k) + 2).toNat
  have hhi1 := hhi ((3 * k) + 1).toNat
  intro x
  induction x with
  | zero =>
    intro b h N M hfr hRN hs hx hb0 hh0 hhx hE
    have hRM := hRN.of hs
    have eL : ∀ j, mi M 123 j = mi m 123 j := fun j => (hs.mi 123 j).trans (hfr.cell (by decide) (by omega))
    have eH : ∀ j, mi M 124 j = mi m 124 j := fun j => (hs.mi 124 j).trans (hfr.cell (by decide) (by omega))
    have eL0 := eL (3 * k).toNat
    have eL1 := eL ((3 * k) + 1).toNat
    have eL2 := eL ((3 * k) + 2).toNat
    have eH0 := eH (3 * k).toNat
    have eH1 := eH ((3 * k) + 1).toNat
    have eH2 := eH ((3 * k) + 2).toNat
    have hE : (0, h, N) = E := hE
    refine j_iload rfl rfl ?_
    refine j_aload_n rfl rfl ?_
    refine j_getR (q := 124) rfl f_X12_124 rfl (hRM.s.lt (by decide)) (hRM.s.k (by decide) (by decide)) (hRM.s.r (by decide)) ?_
    refine j_iconst rfl ?_
    refine j_iload_n rfl rfl ?_
    refine j_imul rfl ?_
    refine j_iconst rfl ?_
    refine j_iadd rfl ?_
    refine j_iald (n := 6) rfl (hRM.s.lt (by decide)) (hRM.s.k (by decide) (by decide)) (hRM.s.n (by decide) (by decide)) (by omega) (by omega) (by decide) ?_
    have u136_1 := hRM.i.a 124 (-99999) 99999 (by decide) ((3 * k) + 1).toNat
    refine j_icmp_gt (tgt := 229) rfl (by decide) (by omega) (by omega) (by omega) (by omega) (fun hb137_1 => ?_) (fun hb137_1 => ?_)
    · skip
      subst hE
      refine j_loc (ls' := [(0, vR 86), (1, vI k), (2, vI f), (3, vI n), (4, vL w), (6, vI h), (7, vI a)]) rfl ?_
      exact hnone M hfr hRN hs rfl
    · skip
      exfalso; omega
  | succ x ih =>
    intro b h N M hfr hRN hs hx hb0 hh0 hhx hE
    have hRM := hRN.of hs
    have eL : ∀ j, mi M 123 j = mi m 123 j := fun j => (hs.mi 123 j).trans (hfr.cell (by decide) (by omega))
    have eH : ∀ j, mi M 124 j = mi m 124 j := fun j => (hs.mi 124 j).trans (hfr.cell (by decide) (by omega))
    have eL0 := eL (3 * k).toNat
    have eL1 := eL ((3 * k) + 1).toNat
    have eL2 := eL ((3 * k) + 2).toNat
    have eH0 := eH (3 * k).toNat
    have eH1 := eH ((3 * k) + 1).toNat
    have eH2 := eH ((3 * k) + 2).toNat
    have hmx : h + (wdX m ((3 * k) + 2)) + (x : Int) * (wdX m ((3 * k) + 2)) ≤ 2000000000 ∧ 0 ≤ (x : Int) * (wdX m ((3 * k) + 2)) := by
      have e : ((x + 1 : Nat) : Int) * (wdX m ((3 * k) + 2)) = (x : Int) * (wdX m ((3 * k) + 2)) + (wdX m ((3 * k) + 2)) := by
        rw [show ((x + 1 : Nat) : Int) = (x : Int) + 1 by omega, Int.add_mul, Int.one_mul]
      have p := Int.mul_nonneg (show (0 : Int) ≤ (x : Int) by omega) hw2
      omega
    simp only [alB] at hE
    refine j_iload rfl rfl ?_
    refine j_aload_n rfl rfl ?_
    refine j_getR (q := 124) rfl f_X12_124 rfl (hRM.s.lt (by decide)) (hRM.s.k (by decide) (by decide)) (hRM.s.r (by decide)) ?_
    refine j_iconst rfl ?_
    refine j_iload_n rfl rfl ?_
    refine j_imul rfl ?_
    refine j_iconst rfl ?_
    refine j_iadd rfl ?_
    refine j_iald (n := 6) rfl (hRM.s.lt (by decide)) (hRM.s.k (by decide) (by decide)) (hRM.s.n (by decide) (by decide)) (by omega) (by omega) (by decide) ?_
    have u136_1 := hRM.i.a 124 (-99999) 99999 (by decide) ((3 * k) + 1).toNat
    refine j_icmp_gt (tgt := 229) rfl (by decide) (by omega) (by omega) (by omega) (by omega) (fun hb137_1 => ?_) (fun hb137_1 => ?_)
    · skip
      exfalso; omega
    · skip
      refine j_aload_n rfl rfl ?_
      refine j_getR (q := 123) rfl f_X12_121 rfl (hRM.s.lt (by decide)) (hRM.s.k (by decide) (by decide)) (hRM.s.r (by decide)) ?_
      refine j_iconst rfl ?_
      refine j_iload_n rfl rfl ?_
      refine j_imul rfl ?_
      refine j_iconst rfl ?_
      refine j_iadd rfl ?_
      refine j_iald (n := 6) rfl (hRM.s.lt (by decide)) (hRM.s.k (by decide) (by decide)) (hRM.s.n (by decide) (by decide)) (by omega) (by omega) (by decide) ?_
      have u149_1 := hRM.i.a 123 (-99999) 99999 (by decide) ((3 * k) + 2).toNat
      refine j_istore rfl (by decide) ?_
      have hc9 : mi M 123 ((3 * k) + 2).toNat = mi m 123 ((3 * k) + 2).toNat := by rw [eL2]
      refine j_loc (ls' := [(0, vR 86), (1, vI k), (2, vI f), (3, vI n), (4, vL w), (6, vI h), (7, vI a), (8, vI b), (9, vI (mi m 123 ((3 * k) + 2).toNat))]) (by rw [← hc9]; rfl) ?_
      refine lp_all_152 (m := m) (E := alC f n a b (wdX m ((3 * k) + 2)).toNat (mi m 123 ((3 * k) + 2).toNat) h N) hk0 hk1 hf0 hf7 hn0 hn ha0 ha1 hb0 (by omega) (by omega) (by omega) (fun M2 hs2 hq => ?_) (fun M2 hfr2 hR2 hs2 hq => ?_) (wdX m ((3 * k) + 2)).toNat _ h N M hfr hRN hs (by unfold wdX at hw2 ⊢; omega) (by omega) hh0 (by have := hmx; unfold wdX at *; omega) rfl
      · rw [if_pos hq] at hE
        rw [hE] at hs2 hq ⊢
        exact hfound M2 hs2 hq
      · rw [if_neg (by omega)] at hE
        have hn2 := alC_n _ _ _ _ hq
        refine j_iinc rfl rfl (by decide) ?_
        refine j_goto (tgt := 125) rfl (by decide) ?_
        refine j_loc (ls' := [(0, vR 86), (1, vI k), (2, vI f), (3, vI n), (4, vL w), (6, vI (alC f n a b (wdX m ((3 * k) + 2)).toNat (mi m 123 ((3 * k) + 2).toNat) h N).2.1), (7, vI a), (8, vI (b + 1))]) rfl ?_
        exact ih (b + 1) _ _ M2 hfr2 hR2 hs2 (by omega) (by omega) (by omega) (by rw [hn2]; have := hmx; omega) hE

set_option maxRecDepth 20000 in
set_option maxHeartbeats 4000000 in
theorem lp_all_100 {G : QW} {m : AM} {k f n w : Int} {E : Int × Int × AM} {Rp : Option Vl → AM → Prop} (hk0 : 0 ≤ k) (hk1 : k ≤ 1) (hf0 : 0 ≤ f) (hf7 : f ≤ 7) (hn0 : 1 ≤ n) (hn : n ≤ 200) (hlo : ∀ j, -99999 ≤ mi m 123 j ∧ mi m 123 j ≤ 99999) (hhi : ∀ j, -99999 ≤ mi m 124 j ∧ mi m 124 j ≤ 99999) (hw2 : 0 ≤ (wdX m ((3 * k) + 2))) (hw1 : 0 ≤ (wdX m ((3 * k) + 1))) (hfound : ∀ M, SameP E.2.2 M → E.1 ≠ 0 → Rp (some (vI E.2.1)) M)
    (hnone : ∀ M, SameP E.2.2 M → E.1 = 0 → Rp (some (vI (-2))) M) : ∀ (x : Nat) (a h : Int) (N M : AM), FR m N → RI N → SameP N M → a + x = mi m 124 (3 * k).toNat + 1 → -99999 ≤ a → 0 ≤ h → h + x * ((wdX m ((3 * k) + 1)) * (wdX m ((3 * k) + 2))) ≤ 2000000000 → alA f n (wdX m ((3 * k) + 1)) (mi m 123 ((3 * k) + 1).toNat) (wdX m ((3 * k) + 2)) (mi m 123 ((3 * k) + 2).toNat) x a h N = E → qJ G mX12_all { frames := 10, cells := 0, slots := 0, locals := 60 * 10 } (qF G Rp 0 0) 100 [(0, vR 86), (1, vI k), (2, vI f), (3, vI n), (4, vL w), (6, vI h), (7, vI a)] [] M 0 0 := by
  have hlo1 := hlo ((3 * k) + 1).toNat
  have hhi1 := hhi ((3 * k) + 1).toNat
  have hhi0 := hhi (3 * k).toNat
  have hlo0 := hlo (3 * k).toNat
  intro x
  induction x with
  | zero =>
    intro a h N M hfr hRN hs hx ha0 hh0 hhx hE
    have hRM := hRN.of hs
    have eL : ∀ j, mi M 123 j = mi m 123 j := fun j => (hs.mi 123 j).trans (hfr.cell (by decide) (by omega))
    have eH : ∀ j, mi M 124 j = mi m 124 j := fun j => (hs.mi 124 j).trans (hfr.cell (by decide) (by omega))
    have eL0 := eL (3 * k).toNat
    have eL1 := eL ((3 * k) + 1).toNat
    have eL2 := eL ((3 * k) + 2).toNat
    have eH0 := eH (3 * k).toNat
    have eH1 := eH ((3 * k) + 1).toNat
    have eH2 := eH ((3 * k) + 2).toNat
    have hE : (0, h, N) = E := hE
    refine j_iload rfl rfl ?_
    refine j_aload_n rfl rfl ?_
    refine j_getR (q := 124) rfl f_X12_124 rfl (hRM.s.lt (by decide)) (hRM.s.k (by decide) (by decide)) (hRM.s.r (by decide)) ?_
    refine j_iconst rfl ?_
    refine j_iload_n rfl rfl ?_
    refine j_imul rfl ?_
    refine j_iald (n := 6) rfl (hRM.s.lt (by decide)) (hRM.s.k (by decide) (by decide)) (hRM.s.n (by decide) (by decide)) (by omega) (by omega) (by decide) ?_
    have u109_1 := hRM.i.a 124 (-99999) 99999 (by decide) (3 * k).toNat
    refine j_icmp_gt (tgt := 235) rfl (by decide) (by omega) (by omega) (by omega) (by omega) (fun hb110_1 => ?_) (fun hb110_1 => ?_)
    · skip
      refine j_bipush rfl (by decide) ?_
      refine j_iret rfl rfl ?_ rfl (Nat.le_refl _)
      subst hE
      exact hnone M hs rfl
    · skip
      exfalso; omega
  | succ x ih =>
    intro a h N M hfr hRN hs hx ha0 hh0 hhx hE
    have hRM := hRN.of hs
    have eL : ∀ j, mi M 123 j = mi m 123 j := fun j => (hs.mi 123 j).trans (hfr.cell (by decide) (by omega))
    have eH : ∀ j, mi M 124 j = mi m 124 j := fun j => (hs.mi 124 j).trans (hfr.cell (by decide) (by omega))
    have eL0 := eL (3 * k).toNat
    have eL1 := eL ((3 * k) + 1).toNat
    have eL2 := eL ((3 * k) + 2).toNat
    have eH0 := eH (3 * k).toNat
    have eH1 := eH ((3 * k) + 1).toNat
    have eH2 := eH ((3 * k) + 2).toNat
    have ew1 : (((wdX m ((3 * k) + 1)).toNat : Nat) : Int) * (wdX m ((3 * k) + 2)) = ((wdX m ((3 * k) + 1)) * (wdX m ((3 * k) + 2))) := by rw [show (((wdX m ((3 * k) + 1)).toNat : Nat) : Int) = (wdX m ((3 * k) + 1)) by omega]
    have hp0 : 0 ≤ ((wdX m ((3 * k) + 1)) * (wdX m ((3 * k) + 2))) := Int.mul_nonneg hw1 hw2
    have hmx : h + ((wdX m ((3 * k) + 1)) * (wdX m ((3 * k) + 2))) + (x : Int) * ((wdX m ((3 * k) + 1)) * (wdX m ((3 * k) + 2))) ≤ 2000000000 ∧ 0 ≤ (x : Int) * ((wdX m ((3 * k) + 1)) * (wdX m ((3 * k) + 2))) := by
      have e : ((x + 1 : Nat) : Int) * ((wdX m ((3 * k) + 1)) * (wdX m ((3 * k) + 2))) = (x : Int) * ((wdX m ((3 * k) + 1)) * (wdX m ((3 * k) + 2))) + ((wdX m ((3 * k) + 1)) * (wdX m ((3 * k) + 2))) := by
        rw [show ((x + 1 : Nat) : Int) = (x : Int) + 1 by omega, Int.add_mul, Int.one_mul]
      have p := Int.mul_nonneg (show (0 : Int) ≤ (x : Int) by omega) hp0
      omega
    simp only [alA] at hE
    refine j_iload rfl rfl ?_
    refine j_aload_n rfl rfl ?_
    refine j_getR (q := 124) rfl f_X12_124 rfl (hRM.s.lt (by decide)) (hRM.s.k (by decide) (by decide)) (hRM.s.r (by decide)) ?_
    refine j_iconst rfl ?_
    refine j_iload_n rfl rfl ?_
    refine j_imul rfl ?_
    refine j_iald (n := 6) rfl (hRM.s.lt (by decide)) (hRM.s.k (by decide) (by decide)) (hRM.s.n (by decide) (by decide)) (by omega) (by omega) (by decide) ?_
    have u109_1 := hRM.i.a 124 (-99999) 99999 (by decide) (3 * k).toNat
    refine j_icmp_gt (tgt := 235) rfl (by decide) (by omega) (by omega) (by omega) (by omega) (fun hb110_1 => ?_) (fun hb110_1 => ?_)
    · skip
      exfalso; omega
    · skip
      refine j_aload_n rfl rfl ?_
      refine j_getR (q := 123) rfl f_X12_121 rfl (hRM.s.lt (by decide)) (hRM.s.k (by decide) (by decide)) (hRM.s.r (by decide)) ?_
      refine j_iconst rfl ?_
      refine j_iload_n rfl rfl ?_
      refine j_imul rfl ?_
      refine j_iconst rfl ?_
      refine j_iadd rfl ?_
      refine j_iald (n := 6) rfl (hRM.s.lt (by decide)) (hRM.s.k (by decide) (by decide)) (hRM.s.n (by decide) (by decide)) (by omega) (by omega) (by decide) ?_
      have u122_1 := hRM.i.a 123 (-99999) 99999 (by decide) ((3 * k) + 1).toNat
      refine j_istore rfl (by decide) ?_
      have hc8 : mi M 123 ((3 * k) + 1).toNat = mi m 123 ((3 * k) + 1).toNat := by rw [eL1]
      refine j_loc (ls' := [(0, vR 86), (1, vI k), (2, vI f), (3, vI n), (4, vL w), (6, vI h), (7, vI a), (8, vI (mi m 123 ((3 * k) + 1).toNat))]) (by rw [← hc8]; rfl) ?_
      refine lp_all_125 (m := m) (E := alB f n a (wdX m ((3 * k) + 2)) (mi m 123 ((3 * k) + 2).toNat) (wdX m ((3 * k) + 1)).toNat (mi m 123 ((3 * k) + 1).toNat) h N) hk0 hk1 hf0 hf7 hn0 hn ha0 (by omega) hlo hhi hw2 (fun M2 hs2 hq => ?_) (fun M2 hfr2 hR2 hs2 hq => ?_) (wdX m ((3 * k) + 1)).toNat _ h N M hfr hRN hs (by unfold wdX at *; omega) (by omega) hh0 (by rw [ew1]; omega) rfl
      · rw [if_pos hq] at hE
        rw [hE] at hs2 hq ⊢
        exact hfound M2 hs2 hq
      · rw [if_neg (by omega)] at hE
        have hn2 := alB_n hw2 _ _ _ _ hq
        rw [ew1] at hn2
        refine j_iinc rfl rfl (by decide) ?_
        refine j_goto (tgt := 100) rfl (by decide) ?_
        refine j_loc (ls' := [(0, vR 86), (1, vI k), (2, vI f), (3, vI n), (4, vL w), (6, vI (alB f n a (wdX m ((3 * k) + 2)) (mi m 123 ((3 * k) + 2).toNat) (wdX m ((3 * k) + 1)).toNat (mi m 123 ((3 * k) + 1).toNat) h N).2.1), (7, vI (a + 1))]) rfl ?_
        exact ih (a + 1) _ _ M2 hfr2 hR2 hs2 (by omega) (by omega) (by omega) (by rw [hn2]; omega) hE

theorem abs_mul_le {x y a b : Int} (ha : 0 ≤ a) (hx : -a ≤ x ∧ x ≤ a) (hy : -b ≤ y ∧ y ≤ b) : -(a * b) ≤ x * y ∧ x * y ≤ a * b := by
  have hb : 0 ≤ b := by omega
  have h1 : x.natAbs ≤ a.natAbs := by omega
  have h2 : y.natAbs ≤ b.natAbs := by omega
  have h3 := Nat.mul_le_mul h1 h2
  rw [← Int.natAbs_mul, ← Int.natAbs_mul] at h3
  have h4 := Int.mul_nonneg ha hb
  omega
theorem wdX_rng {m : AM} (hI : IM m) (k : Int) : -200000 ≤ wdX m k ∧ wdX m k ≤ 200000 := by
  have a := hI.a 123 (-99999) 99999 (by decide) k.toNat
  have b := hI.a 124 (-99999) 99999 (by decide) k.toNat
  unfold wdX
  omega
theorem manyS_rng {m : AM} (hI : IM m) (k : Int) : -10000000000000000 ≤ manyS m k ∧ manyS m k ≤ 10000000000000000 := by
  have h0 := wdX_rng hI (3 * k)
  have h1 := wdX_rng hI ((3 * k) + 1)
  have h2 := wdX_rng hI (((3 * k) + 1) + 1)
  have p := abs_mul_le (a := 200000) (b := 200000) (by decide) h0 h1
  have q := abs_mul_le (a := 200000 * 200000) (b := 200000) (by decide) p h2
  unfold manyS
  rw [Int.one_mul]
  omega
set_option maxRecDepth 20000 in
set_option maxHeartbeats 4000000 in
theorem ct_X12_all {G : QW} {m : AM} {k f n : Int} (h : RI m) (hsp : ∀ j : Int, 0 ≤ j → j ≤ 5 → mi m 123 j.toNat ≤ mi m 124 j.toNat) (hk1 : -2147483648 ≤ k) (hk2 : k < 2147483648) (hf1 : -2147483648 ≤ f) (hf2 : f < 2147483648) (hn1 : -2147483648 ≤ n) (hn2 : n < 2147483648) : qM G mX12_all 10 0 0 [vR 86, vI k, vI f, vI n] m (fun r m' => r = some (vI (allR m k f n).1) ∧ SameP (allR m k f n).2 m') := by
  refine qM.intro okX12_all (Nat.le_of_ble_eq_true rfl) ?_
  have hS := h.s
  have hI := h.i
  have hfl := hI.s 86 21 0 8 (by decide)
  refine j_iload_n rfl rfl ?_
  refine j_callS (As := [_]) rfl okX12_isMachine c_X12_399 (ct_X12_isMachine (by omega) (by omega)) rfl rfl (Nat.le_of_ble_eq_true rfl) (by decide) (by decide) ?_
  rintro vq mq ⟨e1, e2⟩
  rw [e1, e2]
  clear e1 e2
  simp only [Option.toList_some, Option.toList_none, List.cons_append, List.nil_append]
  refine j_bif_eq (tgt := 22) rfl (by decide) (fun hb4_1 => ?_) (fun hb4_1 => ?_)
  · skip
    refine j_iconst rfl ?_
    refine j_iret rfl rfl ?_ rfl (Nat.le_refl _)
    exact ⟨by unfold allR; rw [if_neg (by omega)], by unfold allR; rw [if_neg (by omega)]; exact SameP.rf m⟩
  · skip
    refine j_aload_n rfl rfl ?_
    refine j_iload_n rfl rfl ?_
    refine j_callV (ci := 12) rfl okX12_isFlight c_X12_270 (ct_X12_isFlight hS hI (by omega) (by omega)) rfl rfl (hS.lt (by decide)) (hS.k (by decide) (by decide)) (by decide) rfl (Nat.le_of_ble_eq_true rfl) (by decide) (by decide) ?_
    rintro vq mq ⟨e1, e2⟩
    rw [e1, e2]
    clear e1 e2
    simp only [Option.toList_some, Option.toList_none, List.cons_append, List.nil_append]
    have w1 := hI.s 86 21 (0) 8 (by decide)
    refine j_bif_eq (tgt := 22) rfl (by decide) (fun hb12_1 => ?_) (fun hb12_1 => ?_)
    · skip
      refine j_iconst rfl ?_
      refine j_iret rfl rfl ?_ rfl (Nat.le_refl _)
      exact ⟨by unfold allR; rw [if_neg (by omega)], by unfold allR; rw [if_neg (by omega)]; exact SameP.rf m⟩
    · skip
      refine j_iload_n rfl rfl ?_
      refine j_callS (As := [_]) rfl okX12_isTicks c_X12_383 (ct_X12_isTicks (by omega) (by omega)) rfl rfl (Nat.le_of_ble_eq_true rfl) (by decide) (by decide) ?_
      rintro vq mq ⟨e1, e2⟩
      rw [e1, e2]
      clear e1 e2
      simp only [Option.toList_some, Option.toList_none, List.cons_append, List.nil_append]
      refine j_bif_ne (tgt := 24) rfl (by decide) (fun hb19_1 => ?_) (fun hb19_1 => ?_)
      · skip
        have a0 := hI.a 123 (-99999) 99999 (by decide) (3 * k).toNat
        have a1 := hI.a 123 (-99999) 99999 (by decide) ((3 * k) + 1).toNat
        have a2 := hI.a 123 (-99999) 99999 (by decide) ((3 * k) + 2).toNat
        have b0 := hI.a 124 (-99999) 99999 (by decide) (3 * k).toNat
        have b1 := hI.a 124 (-99999) 99999 (by decide) ((3 * k) + 1).toNat
        have b2 := hI.a 124 (-99999) 99999 (by decide) ((3 * k) + 2).toNat
        have a2' := hI.a 123 (-99999) 99999 (by decide) (((3 * k) + 1) + 1).toNat
        have b2' := hI.a 124 (-99999) 99999 (by decide) (((3 * k) + 1) + 1).toNat
        have hs0 := hsp (3 * k) (by omega) (by omega)
        have hs1 := hsp ((3 * k) + 1) (by omega) (by omega)
        have hs2 := hsp ((3 * k) + 2) (by omega) (by omega)
        have hmr : -10000000000000000 ≤ manyS m k ∧ manyS m k ≤ 10000000000000000 := manyS_rng hI k
        refine j_lconst (v := 1) rfl (by decide) ?_
        refine j_lstore rfl (by decide) ?_
        refine j_iconst rfl ?_
        refine j_iload_n rfl rfl ?_
        refine j_imul rfl ?_
        refine j_istore rfl (by decide) ?_
        refine j_iload rfl rfl ?_
        refine j_iconst rfl ?_
        refine j_iload_n rfl rfl ?_
        refine j_imul rfl ?_
        refine j_iconst rfl ?_
        refine j_iadd rfl ?_
        refine j_icmp_ge (tgt := 71) rfl (by decide) (by omega) (by omega) (by omega) (by omega) (fun hb39_1 => ?_) (fun hb39_1 => ?_)
        · skip
          exfalso; omega
        · skip
          refine j_lload rfl rfl ?_
          refine j_aload_n rfl rfl ?_
          refine j_getR (q := 124) rfl f_X12_124 rfl (hS.lt (by decide)) (hS.k (by decide) (by decide)) (hS.r (by decide)) ?_
          refine j_iload rfl rfl ?_
          refine j_iald (n := 6) rfl (hS.lt (by decide)) (hS.k (by decide) (by decide)) (hS.n (by decide) (by decide)) (by omega) (by omega) (by decide) ?_
          have u50_1 := hI.a 124 (-99999) 99999 (by decide) (3 * k).toNat
          refine j_aload_n rfl rfl ?_
          refine j_getR (q := 123) rfl f_X12_121 rfl (hS.lt (by decide)) (hS.k (by decide) (by decide)) (hS.r (by decide)) ?_
          refine j_iload rfl rfl ?_
          refine j_iald (n := 6) rfl (hS.lt (by decide)) (hS.k (by decide) (by decide)) (hS.n (by decide) (by decide)) (by omega) (by omega) (by decide) ?_
          have u57_1 := hI.a 123 (-99999) 99999 (by decide) (3 * k).toNat
          refine j_isub rfl ?_
          refine j_i2l rfl (by omega) (by omega) ?_
          refine j_lconst (v := 1) rfl (by decide) ?_
          refine j_ladd rfl ?_
          refine j_lmul rfl ?_
          refine j_lstore rfl (by decide) ?_
          refine j_iinc rfl rfl (by decide) ?_
          refine j_goto (tgt := 32) rfl (by decide) ?_
          refine j_iload rfl rfl ?_
          refine j_iconst rfl ?_
          refine j_iload_n rfl rfl ?_
          refine j_imul rfl ?_
          refine j_iconst rfl ?_
          refine j_iadd rfl ?_
          refine j_icmp_ge (tgt := 71) rfl (by decide) (by omega) (by omega) (by omega) (by omega) (fun hb39_2 => ?_) (fun hb39_2 => ?_)
          · skip
            exfalso; omega
          · skip
            refine j_lload rfl rfl ?_
            refine j_aload_n rfl rfl ?_
            refine j_getR (q := 124) rfl f_X12_124 rfl (hS.lt (by decide)) (hS.k (by decide) (by decide)) (hS.r (by decide)) ?_
            refine j_iload rfl rfl ?_
            refine j_iald (n := 6) rfl (hS.lt (by decide)) (hS.k (by decide) (by decide)) (hS.n (by decide) (by decide)) (by omega) (by omega) (by decide) ?_
            have u50_2 := hI.a 124 (-99999) 99999 (by decide) ((3 * k) + 1).toNat
            refine j_aload_n rfl rfl ?_
            refine j_getR (q := 123) rfl f_X12_121 rfl (hS.lt (by decide)) (hS.k (by decide) (by decide)) (hS.r (by decide)) ?_
            refine j_iload rfl rfl ?_
            refine j_iald (n := 6) rfl (hS.lt (by decide)) (hS.k (by decide) (by decide)) (hS.n (by decide) (by decide)) (by omega) (by omega) (by decide) ?_
            have u57_2 := hI.a 123 (-99999) 99999 (by decide) ((3 * k) + 1).toNat
            refine j_isub rfl ?_
            refine j_i2l rfl (by omega) (by omega) ?_
            refine j_lconst (v := 1) rfl (by decide) ?_
            refine j_ladd rfl ?_
            refine j_lmul rfl ?_
            refine j_lstore rfl (by decide) ?_
            refine j_iinc rfl rfl (by decide) ?_
            refine j_goto (tgt := 32) rfl (by decide) ?_
            refine j_iload rfl rfl ?_
            refine j_iconst rfl ?_
            refine j_iload_n rfl rfl ?_
            refine j_imul rfl ?_
            refine j_iconst rfl ?_
            refine j_iadd rfl ?_
            refine j_icmp_ge (tgt := 71) rfl (by decide) (by omega) (by omega) (by omega) (by omega) (fun hb39_3 => ?_) (fun hb39_3 => ?_)
            · skip
              exfalso; omega
            · skip
              refine j_lload rfl rfl ?_
              refine j_aload_n rfl rfl ?_
              refine j_getR (q := 124) rfl f_X12_124 rfl (hS.lt (by decide)) (hS.k (by decide) (by decide)) (hS.r (by decide)) ?_
              refine j_iload rfl rfl ?_
              refine j_iald (n := 6) rfl (hS.lt (by decide)) (hS.k (by decide) (by decide)) (hS.n (by decide) (by decide)) (by omega) (by omega) (by decide) ?_
              have u50_3 := hI.a 124 (-99999) 99999 (by decide) (((3 * k) + 1) + 1).toNat
              refine j_aload_n rfl rfl ?_
              refine j_getR (q := 123) rfl f_X12_121 rfl (hS.lt (by decide)) (hS.k (by decide) (by decide)) (hS.r (by decide)) ?_
              refine j_iload rfl rfl ?_
              refine j_iald (n := 6) rfl (hS.lt (by decide)) (hS.k (by decide) (by decide)) (hS.n (by decide) (by decide)) (by omega) (by omega) (by decide) ?_
              have u57_3 := hI.a 123 (-99999) 99999 (by decide) (((3 * k) + 1) + 1).toNat
              refine j_isub rfl ?_
              refine j_i2l rfl (by omega) (by omega) ?_
              refine j_lconst (v := 1) rfl (by decide) ?_
              refine j_ladd rfl ?_
              refine j_lmul rfl ?_
              refine j_lstore rfl (by decide) ?_
              refine j_iinc rfl rfl (by decide) ?_
              refine j_goto (tgt := 32) rfl (by decide) ?_
              refine j_iload rfl rfl ?_
              refine j_iconst rfl ?_
              refine j_iload_n rfl rfl ?_
              refine j_imul rfl ?_
              refine j_iconst rfl ?_
              refine j_iadd rfl ?_
              refine j_icmp_ge (tgt := 71) rfl (by decide) (by omega) (by omega) (by omega) (by omega) (fun hb39_4 => ?_) (fun hb39_4 => ?_)
              · skip
                have hm : ((1 * (((mi m 124 (3 * k).toNat) - (mi m 123 (3 * k).toNat)) + 1)) * (((mi m 124 ((3 * k) + 1).toNat) - (mi m 123 ((3 * k) + 1).toNat)) + 1)) * (((mi m 124 (((3 * k) + 1) + 1).toNat) - (mi m 123 (((3 * k) + 1) + 1).toNat)) + 1) = manyS m k := rfl
                rw [hm]
                refine j_loc (ls' := [(0, vR 86), (1, vI k), (2, vI f), (3, vI n), (4, vL (manyS m k))]) rfl ?_
                refine j_lload rfl rfl ?_
                refine j_ldc2 (v := 2000) rfl k_X12_402 ?_
                refine j_lc_le (tgt := 83) rfl rfl (by decide) (by omega) (by omega) (by omega) (by omega) (fun hb76_1 => ?_) (fun hb76_1 => ?_)
                · skip
                  refine j_aload_n rfl rfl ?_
                  refine j_callV (ci := 12) rfl okX12_asItIs c_X12_386 (ct_X12_asIs h) rfl rfl (hS.lt (by decide)) (hS.k (by decide) (by decide)) (by decide) rfl (Nat.le_of_ble_eq_true rfl) (by decide) (by decide) ?_
                  rintro vq mq ⟨e1, e2⟩
                  rw [e1, e2]
                  clear e1 e2
                  simp only [Option.toList_some, Option.toList_none, List.cons_append, List.nil_append]
                  refine j_iconst rfl ?_
                  refine j_istore rfl (by decide) ?_
                  refine j_aload_n rfl rfl ?_
                  refine j_getR (q := 123) rfl f_X12_121 rfl (hS.lt (by decide)) (hS.k (by decide) (by decide)) (hS.r (by decide)) ?_
                  refine j_iconst rfl ?_
                  refine j_iload_n rfl rfl ?_
                  refine j_imul rfl ?_
                  refine j_iald (n := 6) rfl (hS.lt (by decide)) (hS.k (by decide) (by decide)) (hS.n (by decide) (by decide)) (by omega) (by omega) (by decide) ?_
                  have u97_1 := mi_rng (aiM m) 123 (3 * k).toNat
                  refine j_istore rfl (by decide) ?_
                  have eL : ∀ j, mi (aiM m) 123 j = mi m 123 j := fun j => aiM_mi m (Or.inl (by decide))
                  have eH : ∀ j, mi (aiM m) 124 j = mi m 124 j := fun j => aiM_mi m (Or.inl (by decide))
                  have eW : ∀ j, wdX (aiM m) j = wdX m j := fun j => by unfold wdX; rw [eL, eH]
                  rw [eL (3 * k).toNat]
                  refine j_loc (ls' := [(0, vR 86), (1, vI k), (2, vI f), (3, vI n), (4, vL (manyS m k)), (6, vI 0), (7, vI (mi m 123 (3 * k).toNat))]) rfl ?_
                  refine lp_all_100 (m := aiM m) (E := alE m k f n) (by omega) (by omega) (by omega) (by omega) (by omega) (by omega) (fun j => by rw [eL]; exact hI.a 123 (-99999) 99999 (by decide) j) (fun j => by rw [eH]; exact hI.a 124 (-99999) 99999 (by decide) j) (by rw [eW]; unfold wdX; omega) (by rw [eW]; unfold wdX; omega) (fun M2 hs2 hq => ?_) (fun M2 hs2 hq => ?_) (wdX m (3 * k)).toNat _ 0 (aiM m) (aiM m) (FR.rf _) h.asIs (SameP.rf _) ?_ ?_ (Int.le_refl 0) ?_ ?_
                  · exact ⟨by unfold allR; rw [if_pos (by omega), if_neg (by omega)]; dsimp only; rw [if_pos hq], by unfold allR; rw [if_pos (by omega), if_neg (by omega)]; exact hs2⟩
                  · exact ⟨by unfold allR; rw [if_pos (by omega), if_neg (by omega)]; dsimp only; rw [if_neg (fun q => q hq)], by unfold allR; rw [if_pos (by omega), if_neg (by omega)]; exact hs2⟩
                  · rw [eH]; unfold wdX; omega
                  · omega
                  · rw [eW, eW]; have e : (((wdX m (3 * k)).toNat : Nat) : Int) = wdX m (3 * k) := by unfold wdX; omega
                    have e2 : wdX m (3 * k) * (wdX m ((3 * k) + 1) * wdX m ((3 * k) + 2)) = manyS m k := by unfold manyS; rw [Int.one_mul, Int.mul_assoc, show ((3 * k) + 1) + 1 = (3 * k) + 2 by omega]
                    rw [e, e2]; omega
                  · rw [eW, eW, eL, eL]; rfl
                · skip
                  refine j_bipush rfl (by decide) ?_
                  refine j_iret rfl rfl ?_ rfl (Nat.le_refl _)
                  exact ⟨by unfold allR; rw [if_pos (by omega), if_pos (by omega)], by unfold allR; rw [if_pos (by omega), if_pos (by omega)]; exact SameP.rf m⟩
              · skip
                exfalso; omega
      · skip
        refine j_iconst rfl ?_
        refine j_iret rfl rfl ?_ rfl (Nat.le_refl _)
        exact ⟨by unfold allR; rw [if_neg (by omega)], by unfold allR; rw [if_neg (by omega)]; exact SameP.rf m⟩


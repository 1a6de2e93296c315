theorem RI.all {m : AM} (h : RI m) : RI (taM m) := by
  have a := h.1.all h.2.2.1 h.2.2.2
  have f := (FR.rf m).all
  exact ⟨a.1, h.2.1.all h.1 h.2.2.1 h.2.2.2, by rw [f.cell (by decide) (by decide)]; exact h.2.2.1, fun b j h0 h1 h2 h3 => f.fr.prog (h.2.2.2 b j h0 (by rw [← f.cell (by decide) (by decide)]; exact h1) h2 (by rw [← f.cell (by decide) (by omega)]; exact h3))⟩
theorem RI.keepF {m N : AM} (h : RI m) (hT : RT N) (hD : RD N) (f : FR m N) : RI N :=
  ⟨hT, hD, by rw [f.cell (by decide) (by decide)]; exact h.2.2.1, fun b j h0 h1 h2 h3 => f.fr.prog (h.2.2.2 b j h0 (by rw [← f.cell (by decide) (by decide)]; exact h1) h2 (by rw [← f.cell (by decide) (by omega)]; exact h3))⟩
theorem RI.felt {m : AM} (h : RI m) (k : Nat) {v : Int} (h1 : -100000 ≤ v) (h2 : v ≤ 100000) : RI (si m 114 k v) :=
  h.keepF (h.1.other (by decide) (by decide) (h.1.1.felt k h1 h2)) (h.2.1.other (by decide) (by decide) (fun q => absurd q (by decide)) v) ((FR.rf m).one (by omega) v)
theorem RI.time {m : AM} (h : RI m) {v : Int} (h1 : 0 ≤ v) (h2 : v ≤ 200) : RI (si m 86 39 v) :=
  h.keepF (h.1.other (by decide) (by decide) (h.1.1.time h1 h2)) (h.2.1.other (by decide) (by decide) (fun _ => by omega) v) ((FR.rf m).one (by omega) v)
theorem RI.begins {m : AM} (h : RI m) : RI (FX12_begin m) := by
  have k := roM_keep (f := 0) (n := 0) h.1 (fun k a b => h.2.1.2.2 k (by omega) b) h.2.1.1 h.2.1.2.1 (Int.le_refl 0) (by decide) h.2.2.1 h.2.2.2
  have e : roM m 0 0 = si (FX12_begin m) 86 39 0 := rfl
  rw [e] at k
  have b := begin_keep h.1
  refine h.keepF b.1 ?_ ((FR.rf m).begins)
  exact k.2.1.keeps (fun j => (mi_si_ne _ _ (fun q => absurd q.1 (by decide))).symm) (fun j => (mi_si_ne _ _ (fun q => absurd q.1 (by decide))).symm) (fun i a c => (mi_si_ne _ _ (fun q => by omega)).symm)
/-- what is felt of FELT k from a beginning -/
def hbX (N : AM) (f a b c k : Int) : Int := FX12_heldBy N ((if k = 0 then a else if k = 1 then b else c) + (mi N 86 39 * mi N 102 ((3 * f) + k).toNat)) (mi N 103 ((3 * f) + k).toNat)
def fgL (f a b c : Int) : Nat → Int → AM → AM
  | 0, _, N => N
  | n + 1, k, N => fgL f a b c n (k + 1) (si N 114 k.toNat (hbX N f a b c k))
theorem hbX_rng {N : AM} (h : IM N) (f a b c k : Int) : -100000 ≤ hbX N f a b c k ∧ hbX N f a b c k ≤ 100000 := by
  have g := h.a 103 0 99999 (by decide) ((3 * f) + k).toNat
  unfold hbX FX12_heldBy
  repeat' split
  all_goals omega
theorem fgL_keep (f a b c : Int) : ∀ (n : Nat) (k : Int) (N : AM), RI N → RI (fgL f a b c n k N) ∧ FR N (fgL f a b c n k N) ∧ ∀ j, mi (fgL f a b c n k N) 86 j = mi N 86 j := by
  intro n
  induction n with
  | zero => intro k N h; exact ⟨h, FR.rf N, fun _ => rfl⟩
  | succ n ih =>
    intro k N h
    have g := hbX_rng h.i f a b c k
    have i := ih (k + 1) (si N 114 k.toNat (hbX N f a b c k)) (h.felt _ g.1 g.2)
    exact ⟨i.1, ((FR.rf N).one (by omega) _).trans i.2.1, fun j => (i.2.2 j).trans (mi_si_ne _ _ (fun q => absurd q.1 (by decide)))⟩
theorem fgL_same (f a b c : Int) : ∀ (n : Nat) (k : Int) (N M : AM), SameP N M → SameP (fgL f a b c n k N) (fgL f a b c n k M) := by
  intro n
  induction n with
  | zero => intro k N M h; exact h
  | succ n ih =>
    intro k N M h
    have e : hbX M f a b c k = hbX N f a b c k := by
      obtain ⟨L, rfl⟩ := h.ex
      rfl
    refine ih (k + 1) _ _ ?_
    rw [e]
    exact h.si _ _ _
/-- the ticks of a run from a beginning: 1 if a fault was not caught -/
def goL (f a b c : Int) : Nat → AM → Int × AM
  | 0, N => (0, N)
  | n + 1, N =>
    if mi (taM (fgL f a b c 3 0 N)) 86 35 ≥ 0 then (1, taM (fgL f a b c 3 0 N))
    else goL f a b c n (si (taM (fgL f a b c 3 0 N)) 86 39 (mi (taM (fgL f a b c 3 0 N)) 86 39 + 1))
def goM (m : AM) (f n a b c : Int) : Int × AM := goL f a b c n.toNat (si (FX12_begin m) 86 39 0)
theorem goL_same (f a b c : Int) : ∀ (n : Nat) (N M : AM), SameP N M → (goL f a b c n M).1 = (goL f a b c n N).1 ∧ SameP (goL f a b c n N).2 (goL f a b c n M).2 := by
  intro n
  induction n with
  | zero => intro N M h; exact ⟨rfl, h⟩
  | succ n ih =>
    intro N M h
    have g := taM_same (fgL_same f a b c 3 0 _ _ h)
    simp only [goL, g.mi 86]
    split
    · exact ⟨rfl, g⟩
    · exact ih _ _ (g.si _ _ _)
theorem goM_same {m M : AM} (h : SameP m M) (f n a b c : Int) : (goM M f n a b c).1 = (goM m f n a b c).1 ∧ SameP (goM m f n a b c).2 (goM M f n a b c).2 := goL_same _ _ _ _ _ _ _ ((begin_same h).si _ _ _)
theorem goL_keep {m : AM} {f a b c n : Int} (hn : n ≤ 200) : ∀ (k : Nat) (t : Int) (N : AM), RI N → FR m N → mi N 86 39 = t → t + k = n → 0 ≤ t → RI (goL f a b c k N).2 ∧ FR m (goL f a b c k N).2 ∧ 0 ≤ (goL f a b c k N).1 ∧ (goL f a b c k N).1 ≤ 1 := by
  intro k
  induction k with
  | zero => intro t N h h2 _ _ _; exact ⟨h, h2, Int.le_refl _, by show (0 : Int) ≤ 1; decide⟩
  | succ k ih =>
    intro t N h h2 ht hc h0
    have F := fgL_keep f a b c 3 0 N h
    have A := F.1.all
    have q : mi (taM (fgL f a b c 3 0 N)) 86 39 = t := ((F.1.1.all F.1.2.2.1 F.1.2.2.2).2.2 39 (by decide)).trans ((F.2.2 39).trans ht)
    have fr := (h2.trans F.2.1).all
    simp only [goL]
    split
    · exact ⟨A, fr, by show (0 : Int) ≤ 1; decide, Int.le_refl _⟩
    · exact ih (t + 1) _ (A.time (by omega) (by omega)) (fr.one (by omega) _) (by rw [mi_si_same _ _ _ (by omega) (by omega), q]) (by omega) (by omega)
theorem goM_keep {m : AM} (h : RI m) {f n a b c : Int} (hn0 : 0 ≤ n) (hn : n ≤ 200) : RI (goM m f n a b c).2 ∧ FR m (goM m f n a b c).2 ∧ 0 ≤ (goM m f n a b c).1 ∧ (goM m f n a b c).1 ≤ 1 :=
  goL_keep hn n.toNat 0 _ (h.begins.time (by decide) (by decide)) (((FR.rf m).begins).one (by omega) _) (mi_si_same _ _ _ (by decide) (by decide)) (by omega) (Int.le_refl 0)
theorem ct_X12_tickAllI {G : QW} {m : AM} (h : RI m) : qM G mX12_tickAll 4 0 0 [vR 86] m (fun r m' => r = none ∧ SameP (taM m) m') := ct_X12_tickAll h.1 h.2.2.1 h.2.2.2

set_option maxRecDepth 20000 in
set_option maxHeartbeats 4000000 in
theorem lp_goesOver_20 {G : QW} {E : AM} {f n a b c t : Int} {Rp : Option Vl → AM → Prop} (hf0 : 0 ≤ f) (hf7 : f ≤ 7) (ha0 : -99999 ≤ a) (ha1 : a ≤ 99999) (hb0 : -99999 ≤ b) (hb1 : b ≤ 99999) (hc0 : -99999 ≤ c) (hc1 : c ≤ 99999) (ht0 : 0 ≤ t) (ht1 : t ≤ 199) (hexit : qJ G mX12_goesOver { frames := 6, cells := 0, slots := 0, locals := 60 * 6 } (qF G Rp 0 0) 92 [(0, vR 86), (1, vI f), (2, vI n), (3, vI a), (4, vI b), (5, vI c)] [] E 0 0) : ∀ (x : Nat) (k : Int) (N : AM), RI N → mi N 86 39 = t → k + x = 3 → 0 ≤ k → fgL f a b c x k N = E → qJ G mX12_goesOver { frames := 6, cells := 0, slots := 0, locals := 60 * 6 } (qF G Rp 0 0) 20 [(0, vR 86), (1, vI f), (2, vI n), (3, vI a), (4, vI b), (5, vI c), (6, vI k)] [] N 0 0 := by
  intro x
  induction x with
  | zero =>
    intro k N hR ht hx hk hE
    have hE : N = E := hE
    refine j_iload rfl rfl ?_
    refine j_iconst rfl ?_
    refine j_icmp_ge (tgt := 92) rfl (by decide) (by omega) (by omega) (by omega) (by omega) (fun hb23_1 => ?_) (fun hb23_1 => ?_)
    · skip
      refine j_loc (ls' := [(0, vR 86), (1, vI f), (2, vI n), (3, vI a), (4, vI b), (5, vI c)]) rfl ?_
      subst hE
      exact hexit
    · skip
      exfalso; omega
  | succ x ih =>
    intro k N hR ht hx hk hE
    have hE : fgL f a b c x (k + 1) (si N 114 k.toNat (hbX N f a b c k)) = E := hE
    refine j_iload rfl rfl ?_
    refine j_iconst rfl ?_
    refine j_icmp_ge (tgt := 92) rfl (by decide) (by omega) (by omega) (by omega) (by omega) (fun hb23_1 => ?_) (fun hb23_1 => ?_)
    · skip
      exfalso; omega
    · skip
      refine j_aload_n rfl rfl ?_
      refine j_getR (q := 114) rfl f_X12_93 rfl (hR.s.lt (by decide)) (hR.s.k (by decide) (by decide)) (hR.s.r (by decide)) ?_
      refine j_iload rfl rfl ?_
      refine j_iload rfl rfl ?_
      refine j_if_ne (tgt := 41) rfl (by decide) (by omega) (by omega) (fun hb34_1 => ?_) (fun hb34_1 => ?_)
      · skip
        refine j_iload rfl rfl ?_
        refine j_iconst rfl ?_
        refine j_icmp_ne (tgt := 52) rfl (by decide) (by omega) (by omega) (by omega) (by omega) (fun hb44_1 => ?_) (fun hb44_1 => ?_)
        · skip
          refine j_iload rfl rfl ?_
          have g1 := hR.i.a 102 (-999) 999 (by decide) ((3 * f) + k).toNat
          have g2 := hR.i.a 103 0 99999 (by decide) ((3 * f) + k).toNat
          have g3 := mulb (t := mi N 86 39) (s := mi N 102 ((3 * f) + k).toNat) (by omega) (by omega) g1.1 g1.2
          refine j_aload_n rfl rfl ?_
          refine j_getI rfl f_X12_322 rfl (hR.s.lt (by decide)) (hR.s.k (by decide) (by decide)) ?_
          have u55_1 := mi_rng N 86 39
          refine j_aload_n rfl rfl ?_
          refine j_getR (q := 102) rfl f_X12_57 rfl (hR.s.lt (by decide)) (hR.s.k (by decide) (by decide)) (hR.s.r (by decide)) ?_
          refine j_iconst rfl ?_
          refine j_iload_n rfl rfl ?_
          refine j_imul rfl ?_
          refine j_iload rfl rfl ?_
          refine j_iadd rfl ?_
          refine j_iald (n := 24) rfl (hR.s.lt (by decide)) (hR.s.k (by decide) (by decide)) (hR.s.n (by decide) (by decide)) (by omega) (by omega) (by decide) ?_
          have u68_1 := hR.i.a 102 (-999) 999 (by decide) ((3 * f) + k).toNat
          refine j_imul rfl ?_
          refine j_iadd rfl ?_
          refine j_aload_n rfl rfl ?_
          refine j_getR (q := 103) rfl f_X12_60 rfl (hR.s.lt (by decide)) (hR.s.k (by decide) (by decide)) (hR.s.r (by decide)) ?_
          refine j_iconst rfl ?_
          refine j_iload_n rfl rfl ?_
          refine j_imul rfl ?_
          refine j_iload rfl rfl ?_
          refine j_iadd rfl ?_
          refine j_iald (n := 24) rfl (hR.s.lt (by decide)) (hR.s.k (by decide) (by decide)) (hR.s.n (by decide) (by decide)) (by omega) (by omega) (by decide) ?_
          have u81_1 := hR.i.a 103 (0) 99999 (by decide) ((3 * f) + k).toNat
          refine j_callS (As := [_, _]) rfl okX12_heldBy c_X12_296 (ct_X12_heldBy (by omega) (by omega) (by omega) (by omega) (by omega)) rfl rfl (Nat.le_of_ble_eq_true rfl) (by decide) (by decide) ?_
          rintro vq mq ⟨e1, e2⟩
          rw [e1, e2]
          clear e1 e2
          simp only [Option.toList_some, Option.toList_none, List.cons_append, List.nil_append]
          refine j_iast (n := 3) rfl (hR.s.lt (by decide)) (hR.s.k (by decide) (by decide)) (hR.s.n (by decide) (by decide)) (by omega) (by omega) (by first | decide | omega) ?_
          refine j_iinc rfl rfl (by decide) ?_
          refine j_goto (tgt := 20) rfl (by decide) ?_
          refine j_loc (ls' := [(0, vR 86), (1, vI f), (2, vI n), (3, vI a), (4, vI b), (5, vI c), (6, vI (k + 1))]) rfl ?_
          have hv : (si N 114 k.toNat (FX12_heldBy N (c + ((mi N 86 39) * (mi N 102 ((3 * f) + k).toNat))) (mi N 103 ((3 * f) + k).toNat))) = si N 114 k.toNat (hbX N f a b c k) := by unfold hbX; first | (rw [if_pos (by omega)]; done) | (rw [if_neg (by omega), if_pos (by omega)]; done) | (rw [if_neg (by omega), if_neg (by omega)]; done)
          rw [hv]
          have g := hbX_rng hR.i f a b c k
          exact ih (k + 1) _ (hR.felt _ g.1 g.2) (by rw [mi_si_ne _ _ (fun q => absurd q.1 (by decide))]; exact ht) (by omega) (by omega) hE
        · skip
          refine j_iload rfl rfl ?_
          refine j_goto (tgt := 54) rfl (by decide) ?_
          have g1 := hR.i.a 102 (-999) 999 (by decide) ((3 * f) + k).toNat
          have g2 := hR.i.a 103 0 99999 (by decide) ((3 * f) + k).toNat
          have g3 := mulb (t := mi N 86 39) (s := mi N 102 ((3 * f) + k).toNat) (by omega) (by omega) g1.1 g1.2
          refine j_aload_n rfl rfl ?_
          refine j_getI rfl f_X12_322 rfl (hR.s.lt (by decide)) (hR.s.k (by decide) (by decide)) ?_
          have u55_2 := mi_rng N 86 39
          refine j_aload_n rfl rfl ?_
          refine j_getR (q := 102) rfl f_X12_57 rfl (hR.s.lt (by decide)) (hR.s.k (by decide) (by decide)) (hR.s.r (by decide)) ?_
          refine j_iconst rfl ?_
          refine j_iload_n rfl rfl ?_
          refine j_imul rfl ?_
          refine j_iload rfl rfl ?_
          refine j_iadd rfl ?_
          refine j_iald (n := 24) rfl (hR.s.lt (by decide)) (hR.s.k (by decide) (by decide)) (hR.s.n (by decide) (by decide)) (by omega) (by omega) (by decide) ?_
          have u68_2 := hR.i.a 102 (-999) 999 (by decide) ((3 * f) + k).toNat
          refine j_imul rfl ?_
          refine j_iadd rfl ?_
          refine j_aload_n rfl rfl ?_
          refine j_getR (q := 103) rfl f_X12_60 rfl (hR.s.lt (by decide)) (hR.s.k (by decide) (by decide)) (hR.s.r (by decide)) ?_
          refine j_iconst rfl ?_
          refine j_iload_n rfl rfl ?_
          refine j_imul rfl ?_
          refine j_iload rfl rfl ?_
          refine j_iadd rfl ?_
          refine j_iald (n := 24) rfl (hR.s.lt (by decide)) (hR.s.k (by decide) (by decide)) (hR.s.n (by decide) (by decide)) (by omega) (by omega) (by decide) ?_
          have u81_2 := hR.i.a 103 (0) 99999 (by decide) ((3 * f) + k).toNat
          refine j_callS (As := [_, _]) rfl okX12_heldBy c_X12_296 (ct_X12_heldBy (by omega) (by omega) (by omega) (by omega) (by omega)) rfl rfl (Nat.le_of_ble_eq_true rfl) (by decide) (by decide) ?_
          rintro vq mq ⟨e1, e2⟩
          rw [e1, e2]
          clear e1 e2
          simp only [Option.toList_some, Option.toList_none, List.cons_append, List.nil_append]
          refine j_iast (n := 3) rfl (hR.s.lt (by decide)) (hR.s.k (by decide) (by decide)) (hR.s.n (by decide) (by decide)) (by omega) (by omega) (by first | decide | omega) ?_
          refine j_iinc rfl rfl (by decide) ?_
          refine j_goto (tgt := 20) rfl (by decide) ?_
          refine j_loc (ls' := [(0, vR 86), (1, vI f), (2, vI n), (3, vI a), (4, vI b), (5, vI c), (6, vI (k + 1))]) rfl ?_
          have hv : (si N 114 k.toNat (FX12_heldBy N (b + ((mi N 86 39) * (mi N 102 ((3 * f) + k).toNat))) (mi N 103 ((3 * f) + k).toNat))) = si N 114 k.toNat (hbX N f a b c k) := by unfold hbX; first | (rw [if_pos (by omega)]; done) | (rw [if_neg (by omega), if_pos (by omega)]; done) | (rw [if_neg (by omega), if_neg (by omega)]; done)
          rw [hv]
          have g := hbX_rng hR.i f a b c k
          exact ih (k + 1) _ (hR.felt _ g.1 g.2) (by rw [mi_si_ne _ _ (fun q => absurd q.1 (by decide))]; exact ht) (by omega) (by omega) hE
      · skip
        refine j_iload_n rfl rfl ?_
        refine j_goto (tgt := 54) rfl (by decide) ?_
        have g1 := hR.i.a 102 (-999) 999 (by decide) ((3 * f) + k).toNat
        have g2 := hR.i.a 103 0 99999 (by decide) ((3 * f) + k).toNat
        have g3 := mulb (t := mi N 86 39) (s := mi N 102 ((3 * f) + k).toNat) (by omega) (by omega) g1.1 g1.2
        refine j_aload_n rfl rfl ?_
        refine j_getI rfl f_X12_322 rfl (hR.s.lt (by decide)) (hR.s.k (by decide) (by decide)) ?_
        have u55_3 := mi_rng N 86 39
        refine j_aload_n rfl rfl ?_
        refine j_getR (q := 102) rfl f_X12_57 rfl (hR.s.lt (by decide)) (hR.s.k (by decide) (by decide)) (hR.s.r (by decide)) ?_
        refine j_iconst rfl ?_
        refine j_iload_n rfl rfl ?_
        refine j_imul rfl ?_
        refine j_iload rfl rfl ?_
        refine j_iadd rfl ?_
        refine j_iald (n := 24) rfl (hR.s.lt (by decide)) (hR.s.k (by decide) (by decide)) (hR.s.n (by decide) (by decide)) (by omega) (by omega) (by decide) ?_
        have u68_3 := hR.i.a 102 (-999) 999 (by decide) ((3 * f) + k).toNat
        refine j_imul rfl ?_
        refine j_iadd rfl ?_
        refine j_aload_n rfl rfl ?_
        refine j_getR (q := 103) rfl f_X12_60 rfl (hR.s.lt (by decide)) (hR.s.k (by decide) (by decide)) (hR.s.r (by decide)) ?_
        refine j_iconst rfl ?_
        refine j_iload_n rfl rfl ?_
        refine j_imul rfl ?_
        refine j_iload rfl rfl ?_
        refine j_iadd rfl ?_
        refine j_iald (n := 24) rfl (hR.s.lt (by decide)) (hR.s.k (by decide) (by decide)) (hR.s.n (by decide) (by decide)) (by omega) (by omega) (by decide) ?_
        have u81_3 := hR.i.a 103 (0) 99999 (by decide) ((3 * f) + k).toNat
        refine j_callS (As := [_, _]) rfl okX12_heldBy c_X12_296 (ct_X12_heldBy (by omega) (by omega) (by omega) (by omega) (by omega)) rfl rfl (Nat.le_of_ble_eq_true rfl) (by decide) (by decide) ?_
        rintro vq mq ⟨e1, e2⟩
        rw [e1, e2]
        clear e1 e2
        simp only [Option.toList_some, Option.toList_none, List.cons_append, List.nil_append]
        refine j_iast (n := 3) rfl (hR.s.lt (by decide)) (hR.s.k (by decide) (by decide)) (hR.s.n (by decide) (by decide)) (by omega) (by omega) (by first | decide | omega) ?_
        refine j_iinc rfl rfl (by decide) ?_
        refine j_goto (tgt := 20) rfl (by decide) ?_
        refine j_loc (ls' := [(0, vR 86), (1, vI f), (2, vI n), (3, vI a), (4, vI b), (5, vI c), (6, vI (k + 1))]) rfl ?_
        have hv : (si N 114 k.toNat (FX12_heldBy N (a + ((mi N 86 39) * (mi N 102 ((3 * f) + k).toNat))) (mi N 103 ((3 * f) + k).toNat))) = si N 114 k.toNat (hbX N f a b c k) := by unfold hbX; first | (rw [if_pos (by omega)]; done) | (rw [if_neg (by omega), if_pos (by omega)]; done) | (rw [if_neg (by omega), if_neg (by omega)]; done)
        rw [hv]
        have g := hbX_rng hR.i f a b c k
        exact ih (k + 1) _ (hR.felt _ g.1 g.2) (by rw [mi_si_ne _ _ (fun q => absurd q.1 (by decide))]; exact ht) (by omega) (by omega) hE

set_option maxRecDepth 20000 in
set_option maxHeartbeats 4000000 in
theorem lp_goesOver_9 {G : QW} {E : Int × AM} {f n a b c : Int} (hf0 : 0 ≤ f) (hf7 : f ≤ 7) (ha0 : -99999 ≤ a) (ha1 : a ≤ 99999) (hb0 : -99999 ≤ b) (hb1 : b ≤ 99999) (hc0 : -99999 ≤ c) (hc1 : c ≤ 99999) (hn : n ≤ 200) : ∀ (x : Nat) (t : Int) (N M : AM), RI N → SameP N M → mi N 86 39 = t → t + x = n → 0 ≤ t → goL f a b c x N = E → qJ G mX12_goesOver { frames := 6, cells := 0, slots := 0, locals := 60 * 6 } (qF G (fun r m' => r = some (vI E.1) ∧ SameP E.2 m') 0 0) 9 [(0, vR 86), (1, vI f), (2, vI n), (3, vI a), (4, vI b), (5, vI c)] [] M 0 0 := by
  intro x
  induction x with
  | zero =>
    intro t N M hRN hs htN hx ht0 hE
    have hRM := hRN.of hs
    have ht : mi M 86 39 = t := (hs.mi 86 39).trans htN
    have hE : (0, N) = E := hE
    refine j_aload_n rfl rfl ?_
    refine j_getI rfl f_X12_322 rfl (hRM.s.lt (by decide)) (hRM.s.k (by decide) (by decide)) ?_
    have u10_1 := mi_rng M 86 39
    refine j_iload_n rfl rfl ?_
    refine j_icmp_ge (tgt := 118) rfl (by decide) (by omega) (by omega) (by omega) (by omega) (fun hb14_1 => ?_) (fun hb14_1 => ?_)
    · skip
      refine j_iconst rfl ?_
      refine j_zret rfl rfl (by decide) ?_ rfl (Nat.le_refl _)
      subst hE
      exact ⟨rfl, hs⟩
    · skip
      exfalso; omega
  | succ x ih =>
    intro t N M hRN hs htN hx ht0 hE
    have hRM := hRN.of hs
    have ht : mi M 86 39 = t := (hs.mi 86 39).trans htN
    have hF := fgL_keep f a b c 3 0 M hRM
    have hFN := fgL_keep f a b c 3 0 N hRN
    have hA := hFN.1.all
    have q39 : mi (taM (fgL f a b c 3 0 N)) 86 39 = t := ((hFN.1.1.all hFN.1.2.2.1 hFN.1.2.2.2).2.2 39 (by decide)).trans ((hFN.2.2 39).trans htN)
    simp only [goL] at hE
    have J92 : qJ G mX12_goesOver { frames := 6, cells := 0, slots := 0, locals := 60 * 6 } (qF G (fun r m' => r = some (vI E.1) ∧ SameP E.2 m') 0 0) 92 [(0, vR 86), (1, vI f), (2, vI n), (3, vI a), (4, vI b), (5, vI c)] [] (fgL f a b c 3 0 M) 0 0 := by
      refine j_aload_n rfl rfl ?_
      refine j_callV (ci := 12) rfl okX12_tickAll c_X12_380 (ct_X12_tickAllI hF.1) rfl rfl (hF.1.s.lt (by decide)) (hF.1.s.k (by decide) (by decide)) (by decide) rfl (Nat.le_of_ble_eq_true rfl) (by decide) (by decide) ?_
      rintro vq M2 ⟨e1, hs2⟩
      rw [e1]
      clear e1
      simp only [Option.toList_some, Option.toList_none, List.cons_append, List.nil_append]
      have g : SameP (taM (fgL f a b c 3 0 N)) M2 := (taM_same (fgL_same f a b c 3 0 _ _ hs)).trans hs2
      have hR2 := hA.of g
      have e35 := g.mi 86 35
      have e39 := g.mi 86 39
      refine j_aload_n rfl rfl ?_
      refine j_getI rfl f_X12_352 rfl (hR2.s.lt (by decide)) (hR2.s.k (by decide) (by decide)) ?_
      have u97_1 := mi_rng M2 86 35
      refine j_if_lt (tgt := 105) rfl (by decide) (by omega) (by omega) (fun hb100_1 => ?_) (fun hb100_1 => ?_)
      · skip
        refine j_aload_n rfl rfl ?_
        refine j_dup rfl (Nat.ne_of_beq_eq_false rfl) ?_
        refine j_getI rfl f_X12_322 rfl (hR2.s.lt (by decide)) (hR2.s.k (by decide) (by decide)) ?_
        have u107_1 := mi_rng M2 86 39
        refine j_iconst rfl ?_
        refine j_iadd rfl ?_
        refine j_putI rfl f_X12_322 rfl (hR2.s.lt (by decide)) (hR2.s.k (by decide) (by decide)) ?_
        refine j_goto (tgt := 9) rfl (by decide) ?_
        rw [if_neg (by omega)] at hE
        exact ih (t + 1) _ _ (hA.time (by omega) (by omega)) (by rw [e39]; exact g.si _ _ _) (by rw [mi_si_same _ _ _ (by omega) (by omega), q39]) (by omega) (by omega) hE
      · skip
        refine j_iconst rfl ?_
        refine j_zret rfl rfl (by decide) ?_ rfl (Nat.le_refl _)
        rw [if_pos (by omega)] at hE
        subst hE
        exact ⟨rfl, g⟩
    refine j_aload_n rfl rfl ?_
    refine j_getI rfl f_X12_322 rfl (hRM.s.lt (by decide)) (hRM.s.k (by decide) (by decide)) ?_
    have u10_1 := mi_rng M 86 39
    refine j_iload_n rfl rfl ?_
    refine j_icmp_ge (tgt := 118) rfl (by decide) (by omega) (by omega) (by omega) (by omega) (fun hb14_1 => ?_) (fun hb14_1 => ?_)
    · skip
      exfalso; omega
    · skip
      refine j_iconst rfl ?_
      refine j_istore rfl (by decide) ?_
      refine j_loc (ls' := [(0, vR 86), (1, vI f), (2, vI n), (3, vI a), (4, vI b), (5, vI c), (6, vI 0)]) rfl ?_
      exact lp_goesOver_20 (t := t) hf0 hf7 ha0 ha1 hb0 hb1 hc0 hc1 ht0 (by omega) J92 3 0 M hRM ht (by decide) (Int.le_refl 0) rfl

set_option maxRecDepth 20000 in
theorem ct_X12_goesOver {G : QW} {m : AM} {f n a b c : Int} (h : RI m) (hf0 : 0 ≤ f) (hf7 : f ≤ 7) (hn0 : 0 ≤ n) (hn : n ≤ 200) (ha0 : -99999 ≤ a) (ha1 : a ≤ 99999) (hb0 : -99999 ≤ b) (hb1 : b ≤ 99999) (hc0 : -99999 ≤ c) (hc1 : c ≤ 99999) : qM G mX12_goesOver 6 0 0 [vR 86, vI f, vI n, vI a, vI b, vI c] m (fun r m' => r = some (vI (goM m f n a b c).1) ∧ SameP (goM m f n a b c).2 m') := by
  refine qM.intro okX12_goesOver (Nat.le_of_ble_eq_true rfl) ?_
  have hS := h.s
  have hI := h.i
  refine j_aload_n rfl rfl ?_
  refine j_callV (ci := 12) rfl okX12_begin c_X12_377 (ct_X12_begin hS hI) rfl rfl (h.s.lt (by decide)) (h.s.k (by decide) (by decide)) (by decide) rfl (Nat.le_of_ble_eq_true rfl) (by decide) (by decide) ?_
  rintro vq mq ⟨e1, e2⟩
  rw [e1, e2]
  clear e1 e2
  simp only [Option.toList_some, Option.toList_none, List.cons_append, List.nil_append]
  refine j_aload_n rfl rfl ?_
  refine j_iconst rfl ?_
  refine j_putI rfl f_X12_322 rfl (h.s.lt (by decide)) (h.s.k (by decide) (by decide)) ?_
  exact lp_goesOver_9 hf0 hf7 ha0 ha1 hb0 hb1 hc0 hc1 hn n.toNat 0 _ _ (h.begins.time (by decide) (by decide)) (SameP.rf _) (mi_si_same _ _ _ (by decide) (by decide)) (by omega) (Int.le_refl 0) rfl


/-- how program() of the class ends -/
def PGC (q : Nat) (m : AM) (b : Int) (R : Except Int (PSt × List LRec)) : Option Vl → AM → Prop := fun x m' => match R with
  | .error p => x = some (vI (-100 - p)) ∧ ∃ N N2, BS q m N ∧ FR2 q N N2 ∧ (mi N2 1 3 = 0 ∨ mi N2 1 3 = 1) ∧ m' = si N2 1 1 0
  | .ok z => x = some (vI z.2.length) ∧ ∃ N N2, BS q m N ∧ FR2 q N N2 ∧ WC q N2 z.1.2 ∧ IV q N2 z.2 ∧ mi N2 q 6 = z.2.length ∧ (mi N2 1 3 = 0 ∨ mi N2 1 3 = 1) ∧ m' = sr (sr (si N2 1 1 0) (bx m b) 4 (some q)) 0 15 (some (pg m b))
def prC (m : AM) (b : Int) : Option (Except Int (PSt × List LRec)) := if 0 ≤ b ∧ b < mi m 0 16 then some (prX (chC m) false (mi m 1 1)) else none
def PGY (q : Nat) (m : AM) (b : Int) (R : Option (Except Int (PSt × List LRec))) : Option Vl → AM → Prop := match R with
  | none => fun r m' => r = some (vI (-1)) ∧ m' = m
  | some R => PGC q m b R
theorem St.box {m : AM} (h : St m) {o : Nat} (ho : mk m o = 1) (k : Nat) (v : Option Nat) : St (sr m o k v) := ⟨h.1, h.2.1, fun r hr => by
  have e : r.1 < 145 ∧ kL.getD r.1 0 ≠ 1 := (by decide +kernel : ∀ r ∈ rL, r.1 < 145 ∧ kL.getD r.1 0 ≠ 1) r hr
  have e2 : r.1 ≠ o := fun z => e.2 (by rw [← (h.2.1 r.1 e.1).1, z]; exact ho)
  rw [mr_sr_ne _ _ (by rintro ⟨z, -⟩; exact e2 z)]
  exact h.2.2 r hr⟩
theorem prX_p {c : Int → Int} {n : Int} (hc : ∀ x, n ≤ x → c x < 0) (hn : 0 ≤ n) (six : Bool) : ∀ (x : Nat) (l : Int) (a : Int) (w : List (Nat × Int)) (rs : List LRec), 0 ≤ a → a ≤ n → (rs.length : Int) = l → l + x = 13 → (∀ p, prL c six n x l (a, w) rs = .error p → 0 ≤ p ∧ p ≤ n) ∧ (∀ z, prL c six n x l (a, w) rs = .ok z → z.2.length ≤ 12) := by
  intro x
  induction x with
  | zero =>
    intro l a w rs h0 h1 hl hx
    refine ⟨fun p e => ?_, fun z e => ?_⟩
    · simp only [prL, Except.error.injEq] at e
      omega
    · simp [prL] at e
  | succ x ih =>
    intro l a w rs h0 h1 hl hx
    simp only [prL]
    by_cases h12 : l = 12
    · rw [if_pos h12]
      refine ⟨fun p e => ?_, fun z e => ?_⟩
      · simp only [Except.error.injEq] at e
        omega
      · simp at e
    · rw [if_neg h12]
      have gd := pLine_good (c := c) (N := n) hc six (w := w) h0 h1
      cases hres : pLine c six (a, w) with
      | error p =>
        refine ⟨fun p2 e => ?_, fun z e => ?_⟩
        · simp only [Except.error.injEq] at e
          have := gd.2 p hres
          omega
        · simp at e
      | ok z =>
        obtain ⟨g1, g2, -⟩ := gd.1 z hres
        dsimp only
        by_cases h59 : c z.1.1 = 59
        · rw [if_pos h59]
          have := lt_end (c := c) hc (a := z.1.1) (by omega)
          exact ih (l + 1) (z.1.1 + 1) z.1.2 (rs ++ [z.2]) (by omega) (by omega) (by rw [List.length_append]; show ((rs.length + 1 : Nat) : Int) = _; omega) (by omega)
        · rw [if_neg h59]
          by_cases hlt : z.1.1 < n
          · rw [if_pos hlt]
            refine ⟨fun p e => ?_, fun y e => ?_⟩
            · simp only [Except.error.injEq] at e
              omega
            · simp at e
          · rw [if_neg hlt]
            refine ⟨fun p e => by simp at e, fun y e => ?_⟩
            simp only [Except.ok.injEq] at e
            subst e
            show (rs ++ [z.2]).length ≤ 12
            rw [List.length_append]
            show rs.length + 1 ≤ 12
            omega

set_option maxRecDepth 20000 in
set_option maxHeartbeats 4000000 in
theorem ct_X11_program {G : QW} {q : Nat} {m : AM} {b : Int} (hS : St m) (hI : IM m) (hX : HX m) (hsp : mr m 0 15 = some q) (hO : ObA m q 5 fsProg) (hq : 62 ≤ q) (hY : BY m) (hb1 : -2147483648 ≤ b) (hb2 : b < 2147483648) : qM G mX11_program 54 0 0 [vR 0, vI b] m (PGY q m b (prC m b)) := by
  refine qM.intro okX11_program (Nat.le_of_ble_eq_true rfl) ?_
  have hRB := RBn 54
  have hlen := hY.1
  refine j_aload_n rfl rfl ?_
  refine j_iload_n rfl rfl ?_
  refine j_callV (ci := 11) rfl okX11_isBox c_X11_119 (ct_X11_isBox hS hI (by omega) (by omega)) rfl rfl (hS.lt (by decide)) (hS.k (by decide) (by decide)) (by decide) rfl (Nat.le_of_ble_eq_true rfl) (RB.call hRB (by omega) (by decide)) ⟨Nat.le_refl _, Nat.le_refl _⟩ ?_
  rintro vq mq ⟨e1, e2⟩
  rw [e1, e2]
  clear e1 e2
  simp only [Option.toList_some, Option.toList_none, List.cons_append, List.nil_append]
  have w1 := hI.s 0 16 (0) 6 (by decide)
  refine j_bif_ne (tgt := 10) rfl (by decide) (fun hb5_1 => ?_) (fun hb5_1 => ?_)
  · skip
    refine j_aload_n rfl rfl ?_
    refine j_getR (q := 1) rfl f_X11_12 rfl (hS.lt (by decide)) (hS.k (by decide) (by decide)) (hS.r (by decide)) ?_
    refine j_aload_n rfl rfl ?_
    refine j_getR (q := q) rfl f_X11_97 rfl (hS.lt (by decide)) (hS.k (by decide) (by decide)) hsp ?_
    refine j_callV (ci := 6) rfl okX6_readInto c_X11_123 (ct_X6_readInto hS hO hq hY) rfl rfl (hS.lt (by decide)) (hS.k (by decide) (by decide)) (by decide) rfl (Nat.le_of_ble_eq_true rfl) (RB.call hRB (by omega) (by decide)) ⟨Nat.le_refl _, Nat.le_refl _⟩ ?_
    rintro vq N2 ⟨N, hN, hP⟩
    have hSi := hS.into (some q)
    cases hR : prX (chC m) false (mi m 1 1) with
    | error p =>
      rw [hR] at hP
      obtain ⟨e1, hF, h13⟩ := hP
      have hp := (prX_p (chC_end (m := m)) (by omega) false 13 0 0 [] [] (by decide) (by omega) rfl (by decide)).1 p hR
      rw [e1]
      simp only [Option.toList_some, Option.toList_none, List.cons_append, List.nil_append]
      have hSn : St N2 := hSi.sub (show N2.2.2 = (sr m 1 4 (some q)).2.2 by rw [hF.1, hN.1])
      refine j_istore_n rfl (by decide) ?_
      refine j_aload_n rfl rfl ?_
      refine j_getR (q := 1) rfl f_X11_12 rfl (hSn.lt (by decide)) (hSn.k (by decide) (by decide)) (hSn.r (by decide)) ?_
      refine j_iconst rfl ?_
      refine j_putI rfl f_X11_106 rfl (hSn.lt (by decide)) (hSn.k (by decide) (by decide)) ?_
      refine j_iload_n rfl rfl ?_
      refine j_if_lt (tgt := 39) rfl (by decide) (by omega) (by omega) (fun hb31_1 => ?_) (fun hb31_1 => ?_)
      · skip
        exfalso; omega
      · skip
        refine j_bipush rfl (by decide) ?_
        refine j_iload_n rfl rfl ?_
        refine j_isub rfl ?_
        refine j_iret rfl rfl ?_ rfl (Nat.le_refl _)
        show PGY q m b (prC m b) _ _
        rw [show prC m b = some (prX (chC m) false (mi m 1 1)) from if_pos ⟨by omega, by omega⟩, hR]
        exact ⟨rfl, N, N2, hN, hF, h13, rfl⟩
    | ok z =>
      rw [hR] at hP
      obtain ⟨e1, hF, hW, hV, h6, h13⟩ := hP
      have hz12 := (prX_p (chC_end (m := m)) (by omega) false 13 0 0 [] [] (by decide) (by omega) rfl (by decide)).2 z hR
      rw [e1]
      simp only [Option.toList_some, Option.toList_none, List.cons_append, List.nil_append]
      have e2 : N2.2 = (sr m 1 4 (some q)).2 := by rw [hF.1, hN.1]
      have hSn : St N2 := hSi.sub (by rw [e2])
      have hr : ∀ o k : Nat, ¬ (o = 1 ∧ k = 4) → mr N2 o k = mr m o k := fun o k h => by
        have q1 : mr N2 o k = mr (sr m 1 4 (some q)) o k := by unfold mr; rw [e2]
        rw [q1, mr_sr_ne _ _ h]
      have hzz : mz N2 = mz m := by unfold mz; rw [e2]; rfl
      have hkk : mk N2 = mk m := by unfold mk; rw [e2]; rfl
      have hX1 := hX b (by omega) (by omega)
      have hbm : bx m b ≠ 1 := fun z => by have q1 := hX1.2.1.2.1; rw [z, hS.k (by decide) (rfl : kL.getD 1 0 = 6)] at q1; exact absurd q1 (by decide)
      have hbm0 : bx m b ≠ 0 := fun z => by have q1 := hX1.2.1.2.1; rw [z, hS.k (by decide) (rfl : kL.getD 0 0 = 11)] at q1; exact absurd q1 (by decide)
      have hbm3 : bx m b ≠ 3 := fun z => by have q1 := hX1.2.1.2.1; rw [z, hS.k (by decide) (rfl : kL.getD 3 0 = 17)] at q1; exact absurd q1 (by decide)
      have hbz : bx m b < mz N2 := by rw [hzz]; exact hX1.2.1.1
      have hbk : mk N2 (bx m b) = 1 := by rw [hkk]; exact hX1.2.1.2.1
      have hpz : pg m b < mz N2 := by rw [hzz]; exact hX1.2.2.2.1.1
      have hpk : mk N2 (pg m b) = 5 := by rw [hkk]; exact hX1.2.2.2.1.2.1
      have hqz : q < mz N2 := by rw [hzz]; exact hO.1
      have hqk : mk N2 q = 5 := by rw [hkk]; exact hO.2.1
      have hb3 : mr N2 3 b.toNat = some (bx m b) := (hr _ _ (by omega)).trans hX1.1
      have hb4 : mr N2 (bx m b) 4 = some (pg m b) := (hr _ _ (by omega)).trans hX1.2.2.1
      have hq15 : mr N2 0 15 = some q := (hr _ _ (by omega)).trans hsp
      have hS2 : St (sr (si N2 1 1 0) (bx m b) 4 (some q)) := St.box (m := si N2 1 1 0) hSn hbk 4 (some q)
      have hb3b : mr (sr (si N2 1 1 0) (bx m b) 4 (some q)) 3 b.toNat = some (bx m b) := (mr_sr_ne _ _ (by omega)).trans hb3
      have hS3 : St (sr (sr (si N2 1 1 0) (bx m b) 4 (some q)) 0 15 (some (pg m b))) := ⟨hS2.1, hS2.2.1, fun r hr2 => by
        have e : ¬ (r.1 = 0 ∧ r.2.1 = 15) := (by decide +kernel : ∀ r ∈ rL, ¬ (r.1 = 0 ∧ r.2.1 = 15)) r hr2
        rw [mr_sr_ne _ _ e]
        exact hS2.2.2 r hr2⟩
      have hb3c : mr (sr (sr (si N2 1 1 0) (bx m b) 4 (some q)) 0 15 (some (pg m b))) 3 b.toNat = some (bx m b) := (mr_sr_ne _ _ (by omega)).trans hb3b
      have hb4c : mr (sr (sr (si N2 1 1 0) (bx m b) 4 (some q)) 0 15 (some (pg m b))) (bx m b) 4 = some q := (mr_sr_ne _ _ (by omega)).trans (mr_sr_same _ _ _ _)
      have h6c : mi (sr (sr (si N2 1 1 0) (bx m b) 4 (some q)) 0 15 (some (pg m b))) q 6 = z.2.length := (mi_si_ne _ _ (by omega)).trans h6
      refine j_istore_n rfl (by decide) ?_
      refine j_aload_n rfl rfl ?_
      refine j_getR (q := 1) rfl f_X11_12 rfl (hSn.lt (by decide)) (hSn.k (by decide) (by decide)) (hSn.r (by decide)) ?_
      refine j_iconst rfl ?_
      refine j_putI rfl f_X11_106 rfl (hSn.lt (by decide)) (hSn.k (by decide) (by decide)) ?_
      refine j_iload_n rfl rfl ?_
      refine j_if_lt (tgt := 39) rfl (by decide) (by omega) (by omega) (fun hb31_2 => ?_) (fun hb31_2 => ?_)
      · skip
        refine j_aload_n rfl rfl ?_
        refine j_getR (q := 3) rfl f_X11_18 rfl (hSn.lt (by decide)) (hSn.k (by decide) (by decide)) (hSn.r (by decide)) ?_
        refine j_iload_n rfl rfl ?_
        refine j_aald (k := 17) (n := 6) (v := (bx m b)) rfl (hSn.lt (by decide)) (hSn.k (by decide) (by decide)) el17 (hSn.n (by decide) (by decide)) (by omega) (by omega) (by decide) hb3 ?_
        refine j_getR (q := (pg m b)) rfl f_X11_127 rfl hbz hbk hb4 ?_
        refine j_astore_n rfl (by decide) ?_
        refine j_aload_n rfl rfl ?_
        refine j_getR (q := 3) rfl f_X11_18 rfl (hSn.lt (by decide)) (hSn.k (by decide) (by decide)) (hSn.r (by decide)) ?_
        refine j_iload_n rfl rfl ?_
        refine j_aald (k := 17) (n := 6) (v := (bx m b)) rfl (hSn.lt (by decide)) (hSn.k (by decide) (by decide)) el17 (hSn.n (by decide) (by decide)) (by omega) (by omega) (by decide) hb3 ?_
        refine j_aload_n rfl rfl ?_
        refine j_getR (q := q) rfl f_X11_97 rfl (hSn.lt (by decide)) (hSn.k (by decide) (by decide)) hq15 ?_
        refine j_putR rfl f_X11_127 (fun _ => ⟨rfl, rfl⟩) rfl hbz hbk ?_
        refine j_aload_n rfl rfl ?_
        refine j_aload_n rfl rfl ?_
        refine j_putR rfl f_X11_97 (fun _ => ⟨rfl, rfl⟩) rfl (hS2.lt (by decide)) (hS2.k (by decide) (by decide)) ?_
        refine j_aload_n rfl rfl ?_
        refine j_getR (q := 3) rfl f_X11_18 rfl (hS3.lt (by decide)) (hS3.k (by decide) (by decide)) (hS3.r (by decide)) ?_
        refine j_iload_n rfl rfl ?_
        refine j_aald (k := 17) (n := 6) (v := (bx m b)) rfl (hS3.lt (by decide)) (hS3.k (by decide) (by decide)) el17 (hS3.n (by decide) (by decide)) (by omega) (by omega) (by decide) hb3c ?_
        refine j_getR (q := q) rfl f_X11_127 rfl hbz hbk hb4c ?_
        refine j_getI rfl f_X11_130 rfl hqz hqk ?_
        have u76_1 := mi_rng (sr (sr (si N2 1 1 0) (bx m b) 4 (some q)) 0 15 (some (pg m b))) q 6
        refine j_iret rfl rfl ?_ rfl (Nat.le_refl _)
        show PGY q m b (prC m b) _ _
        rw [h6c, show prC m b = some (prX (chC m) false (mi m 1 1)) from if_pos ⟨by omega, by omega⟩, hR]
        exact ⟨rfl, N, N2, hN, hF, hW, hV, h6, h13, rfl⟩
      · skip
        exfalso; omega
  · skip
    refine j_iconst rfl ?_
    refine j_iret rfl rfl ?_ rfl (Nat.le_refl _)
    rw [show prC m b = none from if_neg (by omega)]
    exact ⟨rfl, rfl⟩


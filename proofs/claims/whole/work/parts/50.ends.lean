theorem ml_upG {m : AM} {o : Nat} {i v : Int} (h : -9223372036854775808 ≤ v) (h2 : v < 9223372036854775808) : ml (sl m o i.toNat v) o = sUp (ml m o) i v := by
  funext j
  unfold sUp
  by_cases hj : j = i.toNat
  · rw [if_pos hj, hj, ml_sl_same m o i.toNat h h2]
  · rw [if_neg hj, ml_sl_ne m v (fun q => hj q.2)]
theorem ml_otherG {m : AM} {o p : Nat} (h : p ≠ o) (i : Nat) (v : Int) : ml (sl m o i v) p = ml m p := by
  funext j
  exact ml_sl_ne m v (fun q => h q.1)
theorem ml_two {m : AM} {i l h : Int} (h1 : -9223372036854775808 ≤ l) (h2 : l < 9223372036854775808) (h3 : -9223372036854775808 ≤ h) (h4 : h < 9223372036854775808) : ml (sl (sl m 126 i.toNat l) 127 i.toNat h) 126 = sUp (ml m 126) i l ∧ ml (sl (sl m 126 i.toNat l) 127 i.toNat h) 127 = sUp (ml m 127) i h := by
  refine ⟨?_, ?_⟩
  · rw [ml_otherG (by decide), ml_upG h1 h2]
  · rw [ml_upG h3 h4, ml_otherG (by decide)]
theorem same_two {m M : AM} (h : SameP m M) (i : Nat) (a b : Int) : SameP m (sl (sl M 126 i a) 127 i b) := (h.scrap (Or.inr (Or.inl rfl)) _ _).scrap (Or.inr (Or.inr rfl)) _ _
theorem ckE_r (l h : Int) : ((ckE l h).1 ≠ 0 → (-1000000000 ≤ l ∧ l ≤ 1000000000) ∧ (-1000000000 ≤ h ∧ h ≤ 1000000000)) := by
  unfold ckE
  intro q
  split at q
  · exact absurd rfl q
  · omega
theorem ckE_01 (l h : Int) : (ckE l h).1 = 0 ∨ (ckE l h).1 = 1 := by
  unfold ckE
  split
  · exact Or.inl rfl
  · exact Or.inr rfl
theorem sJE_r {w : Nat} {a b c d : Int} (h : (sJE w a b c d).1 ≠ 0) : (-1000000000 ≤ (sJE w a b c d).2.1 ∧ (sJE w a b c d).2.1 ≤ 1000000000) ∧ (-1000000000 ≤ (sJE w a b c d).2.2 ∧ (sJE w a b c d).2.2 ≤ 1000000000) := by
  unfold sJE at h ⊢
  split
  · next q => rw [if_pos q] at h; exact ckE_r _ _ h
  · next q => 
    rw [if_neg q] at h
    split
    · next q => rw [if_pos q] at h; exact ckE_r _ _ h
    · next q =>
      rw [if_neg q] at h
      split
      · next q => rw [if_pos q] at h; exact ckE_r _ _ h
      · next q =>
        rw [if_neg q] at h
        split
        · next q =>
          rw [if_pos q] at h
          split
          · next r => rw [if_pos r] at h; exact absurd rfl h
          · next r => rw [if_neg r] at h; exact ckE_r _ _ h
        · next q =>
          rw [if_neg q] at h
          split
          · next q =>
            rw [if_pos q] at h
            split
            · next r => rw [if_pos r] at h; exact absurd rfl h
            · next r => rw [if_neg r] at h; exact ckE_r _ _ h
          · next q => rw [if_neg q] at h; exact ckE_r _ _ h
theorem sJE_le {w : Nat} {a b c d : Int} (hab : a ≤ b) (hcd : c ≤ d) (h : (sJE w a b c d).1 ≠ 0) : (sJE w a b c d).2.1 ≤ (sJE w a b c d).2.2 := by
  have g : ∀ p q r s : Int, lsE (lsE p q) (lsE r s) ≤ grE (grE p q) (grE r s) := by
    intro p q r s
    unfold lsE grE
    repeat' split
    all_goals omega
  unfold sJE at h ⊢
  by_cases h12 : w = 12
  · rw [if_pos h12]; show a + c ≤ b + d; omega
  rw [if_neg h12] at h ⊢
  by_cases h13 : w = 13
  · rw [if_pos h13]; show a - d ≤ b - c; omega
  rw [if_neg h13] at h ⊢
  by_cases h14 : w = 14
  · rw [if_pos h14]; exact g _ _ _ _
  rw [if_neg h14] at h ⊢
  by_cases h15 : w = 15
  · rw [if_pos h15] at h ⊢
    by_cases q : c ≤ 0 ∧ d ≥ 0
    · rw [if_pos q]; exact Int.le_refl _
    · rw [if_neg q]; exact g _ _ _ _
  rw [if_neg h15] at h ⊢
  by_cases h16 : w = 16
  · rw [if_pos h16] at h ⊢
    by_cases q : c ≤ 0 ∧ d ≥ 0
    · rw [if_pos q]; exact Int.le_refl _
    · rw [if_neg q]
      show -(grE (abE c) (abE d) - 1) ≤ grE (abE c) (abE d) - 1
      unfold grE abE
      repeat' split
      all_goals omega
  rw [if_neg h16]
  show (0 : Int) ≤ 1
  decide
theorem sJE_01 (w : Nat) (a b c d : Int) : (sJE w a b c d).1 = 0 ∨ (sJE w a b c d).1 = 1 := by
  unfold sJE
  repeat' split
  all_goals first | exact ckE_01 _ _ | exact Or.inl rfl
theorem sEE_01 {code : Int → Nat × Int} {rd : Nat → Int → Int × Int} : ∀ (x : Nat) (k n : Int) (lo hi : Nat → Int), (sEE code rd x k n lo hi).1 = 0 ∨ (sEE code rd x k n lo hi).1 = 1 := by
  intro x
  induction x with
  | zero => intro k n lo hi; exact Or.inr rfl
  | succ x ih =>
    intro k n lo hi
    simp only [sEE]
    repeat' split
    all_goals first | exact ih _ _ _ _ | exact Or.inl rfl
/-- what was said of a part: that nothing is over within, and its ends -/
def RpE (m : AM) (E : Int × (Nat → Int) × (Nat → Int)) : Option Vl → AM → Prop := fun r m' => SameP m m' ∧ r = some (vI E.1) ∧ (E.1 ≠ 0 → (ml m' 126 0 = E.2.1 0 ∧ ml m' 127 0 = E.2.2 0) ∧ (-1000000000 ≤ E.2.1 0 ∧ E.2.1 0 ≤ 1000000000) ∧ (-1000000000 ≤ E.2.2 0 ∧ E.2.2 0 ≤ 1000000000))
theorem rdE_same {m M : AM} (h : SameP m M) (k b : Int) : rdE M k b = rdE m k b := by
  obtain ⟨L, rfl⟩ := h.ex
  rfl
theorem rdE_rng {m : AM} (hI : IM m) (k b : Int) {w : Nat} {v : Int} (hbt : ∀ s : Int, 0 ≤ s → s ≤ 7 → 2 ≤ mi m 88 ((8 * b) + s).toNat ∧ mi m 88 ((8 * b) + s).toNat ≤ 20) (h0 : w = 0 → 0 ≤ v ∧ v ≤ 99999) (h1 : w = 1 → 0 ≤ v ∧ v ≤ 7) (h3 : w = 3 → mi m 123 ((3 * k) + v).toNat ≤ mi m 124 ((3 * k) + v).toNat) : (-1000000000 ≤ (rdE m k b w v).1 ∧ (rdE m k b w v).1 ≤ 1000000000) ∧ (-1000000000 ≤ (rdE m k b w v).2 ∧ (rdE m k b w v).2 ≤ 1000000000) ∧ (rdE m k b w v).1 ≤ (rdE m k b w v).2 := by
  have g1 := hI.a 123 (-99999) 99999 (by decide) ((3 * k) + v).toNat
  have g2 := hI.a 124 (-99999) 99999 (by decide) ((3 * k) + v).toNat
  unfold rdE
  by_cases w0 : w = 0
  · rw [if_pos w0]; have := h0 w0; dsimp only; omega
  · rw [if_neg w0]
    by_cases w1 : w = 1
    · rw [if_pos w1]
      have a := h1 w1
      have bb := hbt v a.1 a.2
      have q := most_rng m bb.1 bb.2
      dsimp only
      omega
    · rw [if_neg w1]
      by_cases w2 : w = 2
      · rw [if_pos w2]; dsimp only; omega
      · rw [if_neg w2]
        by_cases w3 : w = 3
        · rw [if_pos w3]; have := h3 w3; dsimp only; omega
        · rw [if_neg w3]
          split
          all_goals (dsimp only; omega)

set_option maxRecDepth 20000 in
set_option maxHeartbeats 4000000 in
theorem lp_findEnds_22 {G : QW} {m : AM} {k b l : Int} {E : Int × (Nat → Int) × (Nat → Int)} (hS0 : St m) (hI0 : IM m) (hk0 : 0 ≤ k) (hk1 : k ≤ 1) (hb0 : 0 ≤ b) (hb5 : b ≤ 5) (hl0 : 0 ≤ l) (hl1 : l ≤ 11) (hbt : ∀ s : Int, 0 ≤ s → s ≤ 7 → 2 ≤ mi m 88 ((8 * b) + s).toNat ∧ mi m 88 ((8 * b) + s).toNat ≤ 20) (hsp : ∀ j : Int, 3 * k ≤ j → j ≤ 3 * k + 2 → mi m 123 j.toNat ≤ mi m 124 j.toNat) : ∀ (x : Nat) (p n : Int) (M : AM), SameP m M → p + x = 170 * b + mi m 97 ((12 * b) + l).toNat → 170 * b ≤ p → 0 ≤ n → n + x ≤ 160 → sWF (cdX m) x p n → (∀ j : Nat, (j : Int) < n → (-1000000000 ≤ ml M 126 j ∧ ml M 126 j ≤ 1000000000) ∧ (-1000000000 ≤ ml M 127 j ∧ ml M 127 j ≤ 1000000000) ∧ ml M 126 j ≤ ml M 127 j) → sEE (cdX m) (rdE m k b) x p n (ml M 126) (ml M 127) = E → qJ G mX12_findEnds { frames := 2, cells := 0, slots := 0, locals := 60 * 2 } (qF G (RpE m E) 0 0) 22 [(0, vR 86), (1, vI k), (2, vI b), (3, vI l), (4, vI n), (5, vI p)] [] M 0 0 := by
  have ht97 := hI0.a 97 0 170 (by decide) ((12 * b) + l).toNat
  intro x
  induction x with
  | zero =>
    intro p n M hs hp hp0 hn hx hwf hst hE
    have hS : St M := hS0.sub hs.2.1
    have hI : IM M := by
      obtain ⟨L, rfl⟩ := hs.ex
      exact hI0
    have e97 := hs.mi 97 ((12 * b) + l).toNat
    refine j_iload rfl rfl ?_
    refine j_sipush rfl (by decide) ?_
    refine j_iload_n rfl rfl ?_
    refine j_imul rfl ?_
    refine j_aload_n rfl rfl ?_
    refine j_getR (q := 97) rfl f_X12_41 rfl (hS.lt (by decide)) (hS.k (by decide) (by decide)) (hS.r (by decide)) ?_
    refine j_bipush rfl (by decide) ?_
    refine j_iload_n rfl rfl ?_
    refine j_imul rfl ?_
    refine j_iload_n rfl rfl ?_
    refine j_iadd rfl ?_
    refine j_iald (n := 84) rfl (hS.lt (by decide)) (hS.k (by decide) (by decide)) (hS.n (by decide) (by decide)) (by omega) (by omega) (by decide) ?_
    have u39_1 := hI.a 97 (0) 170 (by decide) ((12 * b) + l).toNat
    refine j_iadd rfl ?_
    refine j_icmp_ge (tgt := 143) rfl (by decide) (by omega) (by omega) (by omega) (by omega) (fun hb41_1 => ?_) (fun hb41_1 => ?_)
    · skip
      refine j_iconst rfl ?_
      refine j_zret rfl rfl (by decide) ?_ rfl (Nat.le_refl _)
      have hn1 : n = 1 := hwf
      have e : (1, ml M 126, ml M 127) = E := hE
      subst e
      exact ⟨hs, rfl, fun _ => ⟨⟨rfl, rfl⟩, (hst 0 (by omega)).1, (hst 0 (by omega)).2.1⟩⟩
    · skip
      exfalso; omega
  | succ x ih =>
    intro p n M hs hp hp0 hn hx hwf hst hE
    have hS : St M := hS0.sub hs.2.1
    have hI : IM M := by
      obtain ⟨L, rfl⟩ := hs.ex
      exact hI0
    have e97 := hs.mi 97 ((12 * b) + l).toNat
    have hact0 := hI.a 98 0 124 (by decide) p.toNat
    have hck : cdX m p = (opM (mi M 98 p.toNat), (mi M 99 p.toNat)) := by rw [← hs.cd]; rfl
    simp only [sWF, hck] at hwf
    simp only [sEE, hck] at hE
    obtain ⟨-, hW⟩ := hwf
    have hA : opM (mi M 98 p.toNat) ≤ 16 := by rcases hW with h | h | h <;> omega
    have hO := opM_cases hA
    have W0 : (1 ≤ (mi M 98 p.toNat) ∧ (mi M 98 p.toNat) ≤ 6 ∧ ((mi M 98 p.toNat) = 2 → 0 ≤ (mi M 99 p.toNat) ∧ (mi M 99 p.toNat) ≤ 7) ∧ ((mi M 98 p.toNat) = 3 → 0 ≤ (mi M 99 p.toNat) ∧ (mi M 99 p.toNat) ≤ 3) ∧ ((mi M 98 p.toNat) = 4 → 0 ≤ (mi M 99 p.toNat) ∧ (mi M 99 p.toNat) ≤ 2)) ∨ ((mi M 98 p.toNat) = 7 ∧ 1 ≤ n) ∨ ((mi M 98 p.toNat) > 7 ∧ 2 ≤ n) := by
      rcases hW with ⟨h, g0, g1, g2, g3, -⟩ | ⟨h, g, -⟩ | ⟨h, h2, g, -⟩ <;> omega
    have pushed : (mi M 98 p.toNat) ≤ 6 → qJ G mX12_findEnds { frames := 2, cells := 0, slots := 0, locals := 60 * 2 } (qF G (RpE m E) 0 0) 22 [(0, vR 86), (1, vI k), (2, vI b), (3, vI l), (4, vI (n + 1)), (5, vI (p + 1))] [] (sl (sl M 126 n.toNat (rdE m k b (opM (mi M 98 p.toNat)) (mi M 99 p.toNat)).1) 127 n.toNat (rdE m k b (opM (mi M 98 p.toNat)) (mi M 99 p.toNat)).2) 0 0 := by
      intro h6
      rcases hW with ⟨h, g0, g1, g2, g3, hw2⟩ | ⟨h, -, -⟩ | ⟨h, -, -, -⟩
      · have hr := rdE_rng hI0 k b hbt g0 g1 (fun q => hsp _ (by have := g3 q; omega) (by have := g3 q; omega))
        have tw := ml_two (m := M) (i := n) (l := (rdE m k b (opM (mi M 98 p.toNat)) (mi M 99 p.toNat)).1) (h := (rdE m k b (opM (mi M 98 p.toNat)) (mi M 99 p.toNat)).2) (by omega) (by omega) (by omega) (by omega)
        refine ih (p + 1) (n + 1) _ (same_two hs _ _ _) (by omega) (by omega) (by omega) (by omega) hw2 (fun j hj => ?_) ?_
        · rw [tw.1, tw.2]
          unfold sUp
          by_cases hjn : j = n.toNat
          · rw [if_pos hjn, if_pos hjn]; exact hr
          · rw [if_neg hjn, if_neg hjn]; exact hst j (by omega)
        · rw [tw.1, tw.2]
          rw [if_pos h] at hE
          exact hE
      · exfalso; omega
      · exfalso; omega
    have negd : (mi M 98 p.toNat) = 7 → qJ G mX12_findEnds { frames := 2, cells := 0, slots := 0, locals := 60 * 2 } (qF G (RpE m E) 0 0) 22 [(0, vR 86), (1, vI k), (2, vI b), (3, vI l), (4, vI n), (5, vI (p + 1))] [] (sl (sl M 126 (n - 1).toNat (-ml M 127 (n - 1).toNat)) 127 (n - 1).toNat (-ml M 126 (n - 1).toNat)) 0 0 := by
      intro h7
      rcases hW with ⟨h, -, -, -, -, -⟩ | ⟨h, g, hw2⟩ | ⟨h, -, -, -⟩
      · exfalso; omega
      · have hr := hst (n - 1).toNat (by omega)
        have tw := ml_two (m := M) (i := n - 1) (l := (-ml M 127 (n - 1).toNat)) (h := (-ml M 126 (n - 1).toNat)) (by omega) (by omega) (by omega) (by omega)
        refine ih (p + 1) n _ (same_two hs _ _ _) (by omega) (by omega) (by omega) (by omega) hw2 (fun j hj => ?_) ?_
        · rw [tw.1, tw.2]
          unfold sUp
          by_cases hjn : j = (n - 1).toNat
          · rw [if_pos hjn, if_pos hjn]; omega
          · rw [if_neg hjn, if_neg hjn]; exact hst j hj
        · rw [tw.1, tw.2]
          rw [if_neg (by omega), if_pos h] at hE
          exact hE
      · exfalso; omega
    have jc : (mi M 98 p.toNat) > 7 → qM G mX12_ofTwo 1 0 0 [vR 86, vI (mi M 98 p.toNat), vI (n + (-1))] M (fun r m' => r = some (vI (sJE (opM (mi M 98 p.toNat)) (ml M 126 (n - 2).toNat) (ml M 127 (n - 2).toNat) (ml M 126 (n - 1).toNat) (ml M 127 (n - 1).toNat)).1) ∧ SameP M m' ∧ ((sJE (opM (mi M 98 p.toNat)) (ml M 126 (n - 2).toNat) (ml M 127 (n - 2).toNat) (ml M 126 (n - 1).toNat) (ml M 127 (n - 1).toNat)).1 ≠ 0 → m' = sl (sl M 126 (n - 2).toNat (sJE (opM (mi M 98 p.toNat)) (ml M 126 (n - 2).toNat) (ml M 127 (n - 2).toNat) (ml M 126 (n - 1).toNat) (ml M 127 (n - 1).toNat)).2.1) 127 (n - 2).toNat (sJE (opM (mi M 98 p.toNat)) (ml M 126 (n - 2).toNat) (ml M 127 (n - 2).toNat) (ml M 126 (n - 1).toNat) (ml M 127 (n - 1).toNat)).2.2)) := by
      intro h7
      rcases hW with ⟨h, -, -, -, -, -⟩ | ⟨h, -, -⟩ | ⟨h, h2, g, -⟩
      · exfalso; omega
      · exfalso; omega
      · have r1 := hst (n - 2).toNat (by omega)
        have r2 := hst (n - 1).toNat (by omega)
        have := ct_X12_ofTwo (G := G) (m := M) (what := (mi M 98 p.toNat)) (n := n - 1) hS hI h (by omega) hact0 (by omega) (by omega) (by rw [show n - 1 - 1 = n - 2 by omega]; exact r1.1) (by rw [show n - 1 - 1 = n - 2 by omega]; exact r1.2.1) r2.1 r2.2.1 (by rw [show n - 1 - 1 = n - 2 by omega]; exact r1.2.2) r2.2.2
        rw [show n - 1 - 1 = n - 2 by omega] at this
        rw [show n + (-1) = n - 1 by omega]
        exact this
    have joined : ∀ M2, SameP M M2 → (mi M 98 p.toNat) > 7 → ((sJE (opM (mi M 98 p.toNat)) (ml M 126 (n - 2).toNat) (ml M 127 (n - 2).toNat) (ml M 126 (n - 1).toNat) (ml M 127 (n - 1).toNat)).1 ≠ 0 → M2 = sl (sl M 126 (n - 2).toNat (sJE (opM (mi M 98 p.toNat)) (ml M 126 (n - 2).toNat) (ml M 127 (n - 2).toNat) (ml M 126 (n - 1).toNat) (ml M 127 (n - 1).toNat)).2.1) 127 (n - 2).toNat (sJE (opM (mi M 98 p.toNat)) (ml M 126 (n - 2).toNat) (ml M 127 (n - 2).toNat) (ml M 126 (n - 1).toNat) (ml M 127 (n - 1).toNat)).2.2) → (sJE (opM (mi M 98 p.toNat)) (ml M 126 (n - 2).toNat) (ml M 127 (n - 2).toNat) (ml M 126 (n - 1).toNat) (ml M 127 (n - 1).toNat)).1 ≠ 0 → qJ G mX12_findEnds { frames := 2, cells := 0, slots := 0, locals := 60 * 2 } (qF G (RpE m E) 0 0) 22 [(0, vR 86), (1, vI k), (2, vI b), (3, vI l), (4, vI (n - 1)), (5, vI (p + 1))] [] M2 0 0 := by
      intro M2 hsj h7 h3 hne
      rcases hW with ⟨h, -, -, -, -, -⟩ | ⟨h, -, -⟩ | ⟨h, h2, g, hw2⟩
      · exfalso; omega
      · exfalso; omega
      · have hr := sJE_r hne
        have tw := ml_two (m := M) (i := n - 2) (l := (sJE (opM (mi M 98 p.toNat)) (ml M 126 (n - 2).toNat) (ml M 127 (n - 2).toNat) (ml M 126 (n - 1).toNat) (ml M 127 (n - 1).toNat)).2.1) (h := (sJE (opM (mi M 98 p.toNat)) (ml M 126 (n - 2).toNat) (ml M 127 (n - 2).toNat) (ml M 126 (n - 1).toNat) (ml M 127 (n - 1).toNat)).2.2) (by omega) (by omega) (by omega) (by omega)
        rw [h3 hne]
        refine ih (p + 1) (n - 1) _ (same_two hs _ _ _) (by omega) (by omega) (by omega) (by omega) hw2 (fun j hj => ?_) ?_
        · rw [tw.1, tw.2]
          unfold sUp
          by_cases hjn : j = (n - 2).toNat
          · rw [if_pos hjn, if_pos hjn]; exact ⟨hr.1, hr.2, sJE_le (hst (n - 2).toNat (by omega)).2.2 (hst (n - 1).toNat (by omega)).2.2 hne⟩
          · rw [if_neg hjn, if_neg hjn]; exact hst j (by omega)
        · rw [tw.1, tw.2]
          rw [if_neg (by omega), if_neg (by omega), if_neg hne] at hE
          exact hE
    have fault : (mi M 98 p.toNat) > 7 → ∀ M2, SameP M M2 → (sJE (opM (mi M 98 p.toNat)) (ml M 126 (n - 2).toNat) (ml M 127 (n - 2).toNat) (ml M 126 (n - 1).toNat) (ml M 127 (n - 1).toNat)).1 = 0 → RpE m E (some (vI 0)) M2 := by
      intro h7 M2 hsj h0
      rcases hW with ⟨h, -, -, -, -, -⟩ | ⟨h, -, -⟩ | ⟨h, h2, g, -⟩
      · exfalso; omega
      · exfalso; omega
      · rw [if_neg (by omega), if_neg (by omega), if_pos h0] at hE
        subst hE
        exact ⟨hs.trans hsj, rfl, fun q => absurd rfl q⟩
    clear hW hO hE hck ih
    refine j_iload rfl rfl ?_
    refine j_sipush rfl (by decide) ?_
    refine j_iload_n rfl rfl ?_
    refine j_imul rfl ?_
    refine j_aload_n rfl rfl ?_
    refine j_getR (q := 97) rfl f_X12_41 rfl (hS.lt (by decide)) (hS.k (by decide) (by decide)) (hS.r (by decide)) ?_
    refine j_bipush rfl (by decide) ?_
    refine j_iload_n rfl rfl ?_
    refine j_imul rfl ?_
    refine j_iload_n rfl rfl ?_
    refine j_iadd rfl ?_
    refine j_iald (n := 84) rfl (hS.lt (by decide)) (hS.k (by decide) (by decide)) (hS.n (by decide) (by decide)) (by omega) (by omega) (by decide) ?_
    have u39_1 := hI.a 97 (0) 170 (by decide) ((12 * b) + l).toNat
    refine j_iadd rfl ?_
    refine j_icmp_ge (tgt := 143) rfl (by decide) (by omega) (by omega) (by omega) (by omega) (fun hb41_1 => ?_) (fun hb41_1 => ?_)
    · skip
      exfalso; omega
    · skip
      have hact := hI.a 98 0 124 (by decide) p.toNat
      have hwi := hI.a 99 0 99999 (by decide) p.toNat
      refine j_aload_n rfl rfl ?_
      refine j_getR (q := 98) rfl f_X12_44 rfl (hS.lt (by decide)) (hS.k (by decide) (by decide)) (hS.r (by decide)) ?_
      refine j_iload rfl rfl ?_
      refine j_bald (n := 1190) rfl (hS.lt (by decide)) (hS.k (by decide) (by decide)) (hS.n (by decide) (by decide)) (by omega) (by omega) (by decide) ?_
      have u50_1 := hI.a 98 (0) 124 (by decide) p.toNat
      refine j_istore rfl (by decide) ?_
      refine j_iload rfl rfl ?_
      refine j_bipush rfl (by decide) ?_
      refine j_icmp_gt (tgt := 83) rfl (by decide) (by omega) (by omega) (by omega) (by omega) (fun hb57_1 => ?_) (fun hb57_1 => ?_)
      · skip
        refine j_iload rfl rfl ?_
        refine j_bipush rfl (by decide) ?_
        refine j_icmp_ne (tgt := 121) rfl (by decide) (by omega) (by omega) (by omega) (by omega) (fun hb87_1 => ?_) (fun hb87_1 => ?_)
        · skip
          refine j_iinc rfl rfl (by decide) ?_
          refine j_aload_n rfl rfl ?_
          refine j_iload rfl rfl ?_
          refine j_iload rfl rfl ?_
          refine j_callV (ci := 12) rfl okX12_ofTwo c_X12_431 (jc (by omega)) rfl rfl (hS.lt (by decide)) (hS.k (by decide) (by decide)) (by decide) rfl (Nat.le_of_ble_eq_true rfl) (by decide) (by decide) ?_
          rintro vq M2 ⟨e1, hsj, h3⟩
          rw [e1]
          clear e1
          simp only [Option.toList_some, Option.toList_none, List.cons_append, List.nil_append]
          have hj01 := sJE_01 (opM (mi M 98 p.toNat)) (ml M 126 (n - 2).toNat) (ml M 127 (n - 2).toNat) (ml M 126 (n - 1).toNat) (ml M 127 (n - 1).toNat)
          refine j_if_ne (tgt := 137) rfl (by decide) (by omega) (by omega) (fun hb132_1 => ?_) (fun hb132_1 => ?_)
          · skip
            refine j_iinc rfl rfl (by decide) ?_
            refine j_goto (tgt := 22) rfl (by decide) ?_
            refine j_loc (ls' := [(0, vR 86), (1, vI k), (2, vI b), (3, vI l), (4, vI (n - 1)), (5, vI (p + 1))]) rfl ?_
            exact joined M2 hsj (by omega) h3 hb132_1
          · skip
            refine j_iconst rfl ?_
            refine j_zret rfl rfl (by decide) ?_ rfl (Nat.le_refl _)
            exact fault (by omega) M2 hsj (by omega)
        · skip
          have hng := hst (n - 1).toNat (by omega)
          refine j_aload_n rfl rfl ?_
          refine j_iload rfl rfl ?_
          refine j_iconst rfl ?_
          refine j_isub rfl ?_
          refine j_aload_n rfl rfl ?_
          refine j_getR (q := 127) rfl f_X12_133 rfl (hS.lt (by decide)) (hS.k (by decide) (by decide)) (hS.r (by decide)) ?_
          refine j_iload rfl rfl ?_
          refine j_iconst rfl ?_
          refine j_isub rfl ?_
          refine j_lald (n := 170) rfl (hS.lt (by decide)) (hS.k (by decide) (by decide)) (hS.n (by decide) (by decide)) (by omega) (by omega) (by decide) ?_
          have u103_1 := ml_rng M 127 (n - 1).toNat
          refine j_lneg rfl ?_
          refine j_aload_n rfl rfl ?_
          refine j_getR (q := 126) rfl f_X12_130 rfl (hS.lt (by decide)) (hS.k (by decide) (by decide)) (hS.r (by decide)) ?_
          refine j_iload rfl rfl ?_
          refine j_iconst rfl ?_
          refine j_isub rfl ?_
          refine j_lald (n := 170) rfl (hS.lt (by decide)) (hS.k (by decide) (by decide)) (hS.n (by decide) (by decide)) (by omega) (by omega) (by decide) ?_
          have u113_1 := ml_rng M 126 (n - 1).toNat
          refine j_lneg rfl ?_
          refine j_callV (ci := 12) rfl okX12_layEnds c_X12_411 (ct_X12_layEnds hS hI (by omega) (by omega) (by omega) (by omega) (by omega) (by omega) (by omega) (by omega)) rfl rfl (hS.lt (by decide)) (hS.k (by decide) (by decide)) (by decide) rfl (Nat.le_of_ble_eq_true rfl) (by decide) (by decide) ?_
          rintro vq mq ⟨e1, e2⟩
          rw [e1, e2]
          clear e1 e2
          simp only [Option.toList_some, Option.toList_none, List.cons_append, List.nil_append]
          refine j_goto (tgt := 137) rfl (by decide) ?_
          refine j_iinc rfl rfl (by decide) ?_
          refine j_goto (tgt := 22) rfl (by decide) ?_
          refine j_loc (ls' := [(0, vR 86), (1, vI k), (2, vI b), (3, vI l), (4, vI n), (5, vI (p + 1))]) rfl ?_
          exact negd (by omega)
      · skip
        have hbb := hs.mi 88 ((8 * b) + (mi M 99 p.toNat)).toNat
        have hbv : (mi M 98 p.toNat) = 2 → 2 ≤ mi M 88 ((8 * b) + (mi M 99 p.toNat)).toNat ∧ mi M 88 ((8 * b) + (mi M 99 p.toNat)).toNat ≤ 20 := fun q => by rw [hbb]; exact hbt _ (by omega) (by omega)
        refine j_aload_n rfl rfl ?_
        refine j_iload_n rfl rfl ?_
        refine j_iload_n rfl rfl ?_
        refine j_iload rfl rfl ?_
        refine j_aload_n rfl rfl ?_
        refine j_getR (q := 99) rfl f_X12_48 rfl (hS.lt (by decide)) (hS.k (by decide) (by decide)) (hS.r (by decide)) ?_
        refine j_iload rfl rfl ?_
        refine j_iald (n := 1190) rfl (hS.lt (by decide)) (hS.k (by decide) (by decide)) (hS.n (by decide) (by decide)) (by omega) (by omega) (by decide) ?_
        have u71_1 := hI.a 99 (0) 99999 (by decide) p.toNat
        refine j_iload rfl rfl ?_
        refine j_callV (ci := 12) rfl okX12_leaf c_X12_427 (ct_X12_leaf hS hI (by omega) (by omega) (by omega) (by omega) (by omega) (by omega) (by omega) (by omega) (by omega) (by omega) (by omega) (by omega) (by omega) (by omega) (by omega) (by omega) (by omega) (by omega) (by omega) (by omega) (by omega) (by omega)) rfl rfl (hS.lt (by decide)) (hS.k (by decide) (by decide)) (by decide) rfl (Nat.le_of_ble_eq_true rfl) (by decide) (by decide) ?_
        rintro vq mq ⟨e1, e2⟩
        rw [e1, e2]
        clear e1 e2
        simp only [Option.toList_some, Option.toList_none, List.cons_append, List.nil_append]
        refine j_iinc rfl rfl (by decide) ?_
        refine j_goto (tgt := 137) rfl (by decide) ?_
        refine j_iinc rfl rfl (by decide) ?_
        refine j_goto (tgt := 22) rfl (by decide) ?_
        refine j_loc (ls' := [(0, vR 86), (1, vI k), (2, vI b), (3, vI l), (4, vI (n + 1)), (5, vI (p + 1))]) rfl ?_
        rw [FX12_leaf_sp (by omega) (by omega), rdE_same hs]
        exact pushed (by omega)

/-- the ends of the second part of line l -/
def enM (m : AM) (k b l : Int) : Int × (Nat → Int) × (Nat → Int) := sEE (cdX m) (rdE m k b) (mi m 97 ((12 * b) + l).toNat - mi m 96 ((12 * b) + l).toNat).toNat ((170 * b) + mi m 96 ((12 * b) + l).toNat) 0 (ml m 126) (ml m 127)
theorem ct_X12_findEnds {G : QW} {m : AM} {k b l : Int} (hS : St m) (hI : IM m) (hk0 : 0 ≤ k) (hk1 : k ≤ 1) (hb0 : 0 ≤ b) (hb5 : b ≤ 5) (hl0 : 0 ≤ l) (hl1 : l ≤ 11) (hbt : ∀ s : Int, 0 ≤ s → s ≤ 7 → 2 ≤ mi m 88 ((8 * b) + s).toNat ∧ mi m 88 ((8 * b) + s).toNat ≤ 20) (hsp : ∀ j : Int, 3 * k ≤ j → j ≤ 3 * k + 2 → mi m 123 j.toNat ≤ mi m 124 j.toNat) (hle : mi m 96 ((12 * b) + l).toNat ≤ mi m 97 ((12 * b) + l).toNat ∧ mi m 97 ((12 * b) + l).toNat ≤ 160) (hwf : sWF (cdX m) (mi m 97 ((12 * b) + l).toNat - mi m 96 ((12 * b) + l).toNat).toNat ((170 * b) + mi m 96 ((12 * b) + l).toNat) 0) : qM G mX12_findEnds 2 0 0 [vR 86, vI k, vI b, vI l] m (RpE m (enM m k b l)) := by
  refine qM.intro okX12_findEnds (Nat.le_of_ble_eq_true rfl) ?_
  have ht96 := hI.a 96 0 160 (by decide) ((12 * b) + l).toNat
  have ht97 := hI.a 97 0 170 (by decide) ((12 * b) + l).toNat
  refine j_iconst rfl ?_
  refine j_istore rfl (by decide) ?_
  refine j_sipush rfl (by decide) ?_
  refine j_iload_n rfl rfl ?_
  refine j_imul rfl ?_
  refine j_aload_n rfl rfl ?_
  refine j_getR (q := 96) rfl f_X12_38 rfl (hS.lt (by decide)) (hS.k (by decide) (by decide)) (hS.r (by decide)) ?_
  refine j_bipush rfl (by decide) ?_
  refine j_iload_n rfl rfl ?_
  refine j_imul rfl ?_
  refine j_iload_n rfl rfl ?_
  refine j_iadd rfl ?_
  refine j_iald (n := 84) rfl (hS.lt (by decide)) (hS.k (by decide) (by decide)) (hS.n (by decide) (by decide)) (by omega) (by omega) (by decide) ?_
  have u18_1 := hI.a 96 (0) 160 (by decide) ((12 * b) + l).toNat
  refine j_iadd rfl ?_
  refine j_istore rfl (by decide) ?_
  refine j_loc (ls' := [(0, vR 86), (1, vI k), (2, vI b), (3, vI l), (4, vI 0), (5, vI ((170 * b) + mi m 96 ((12 * b) + l).toNat))]) rfl ?_
  exact lp_findEnds_22 hS hI hk0 hk1 hb0 hb5 hl0 hl1 hbt hsp (mi m 97 ((12 * b) + l).toNat - mi m 96 ((12 * b) + l).toNat).toNat _ 0 m (SameP.rf m) (by omega) (by omega) (by omega) (by omega) hwf (fun j hj => by exfalso; omega) rfl


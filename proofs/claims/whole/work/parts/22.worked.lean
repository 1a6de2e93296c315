theorem abs_tdiv {x y c : Int} (h : -c ≤ x) (h2 : x ≤ c) : -c ≤ x.tdiv y ∧ x.tdiv y ≤ c := by
  have h1 : (x.tdiv y).natAbs ≤ x.natAbs := by rw [Int.natAbs_tdiv]; exact Nat.div_le_self _ _
  omega
theorem abs_tmod {x y c : Int} (h : -c ≤ x) (h2 : x ≤ c) : -c ≤ x.tmod y ∧ x.tmod y ≤ c := by
  have h1 : (x.tmod y).natAbs ≤ x.natAbs := by rw [Int.natAbs_tmod]; exact Nat.mod_le _ _
  omega
theorem abs_mul {x y : Int} (h : -1000000000 ≤ x) (h2 : x ≤ 1000000000) (h3 : -1000000000 ≤ y) (h4 : y ≤ 1000000000) : -1000000000000000000 ≤ x * y ∧ x * y ≤ 1000000000000000000 := by
  have h1 : (x * y).natAbs ≤ 1000000000 * 1000000000 := by
    rw [Int.natAbs_mul]
    exact Nat.mul_le_mul (by omega) (by omega)
  omega
theorem sJN_rng (w : Nat) {x y : Int} (h : -1000000000 ≤ x) (h2 : x ≤ 1000000000) (h3 : -1000000000 ≤ y) (h4 : y ≤ 1000000000) : -1000000000000000000 ≤ (sJN w x y).2 ∧ (sJN w x y).2 ≤ 1000000000000000000 := by
  have a1 := abs_tdiv (y := y) h h2
  have a2 := abs_tmod (y := y) h h2
  have a3 := abs_mul h h2 h3 h4
  unfold sJN
  dsimp only
  repeat' split
  all_goals (dsimp only; repeat' split)
  all_goals omega
theorem sJN_f {w : Nat} {x y : Int} (hw : 7 ≤ w) (hw2 : w ≤ 16) (h0 : w = 15 ∨ w = 16 → y ≠ 0) (h : -1000000000 ≤ x) (h2 : x ≤ 1000000000) : (sJN w x y).1 = if (sJN w x y).2 > 1000000000 ∨ (sJN w x y).2 < -1000000000 then 2 else 0 := by
  have a1 := abs_tdiv (y := y) h h2
  have a2 := abs_tmod (y := y) h h2
  have hc : w = 7 ∨ w = 8 ∨ w = 9 ∨ w = 10 ∨ w = 11 ∨ w = 12 ∨ w = 13 ∨ w = 14 ∨ w = 15 ∨ w = 16 := by omega
  rcases hc with rfl | rfl | rfl | rfl | rfl | rfl | rfl | rfl | rfl | rfl <;> unfold sJN <;> simp
  · split <;> decide
  · split <;> decide
  · split <;> decide
  · split <;> decide
  · split <;> decide
  · have := h0 (Or.inl rfl)
    rw [if_neg this, if_neg (by omega)]
  · have := h0 (Or.inr rfl)
    rw [if_neg this, if_neg (by omega)]
theorem inM_4 {m : AM} {b i : Int} (h : (inM m b i).1 ≠ 0) : (inM m b i).1 = 4 := by
  unfold inM at h ⊢
  by_cases c1 : mi m 89 (4 * b + i).toNat < 0
  · rw [if_pos c1] at h
    exact absurd rfl h
  · rw [if_neg c1] at h ⊢
    by_cases c2 : mi m 110 (4 * (mi m 89 (4 * b + i).toNat / 10) + mi m 89 (4 * b + i).toNat % 10).toNat > 0
    · rw [if_pos c2] at h ⊢
      by_cases c3 : mi m 87 b.toNat = 2
      · rw [if_pos c3] at h
        exact absurd rfl h
      · rw [if_neg c3]
    · rw [if_neg c2] at h
      exact absurd rfl h
theorem SameP.ex {m M : AM} (h : SameP m M) : ∃ L, M = (m.1, L, m.2.2) := ⟨M.2.1, by rw [← h.1, ← h.2.1]⟩
/-- what holds while a run goes on -/
def RF (m : AM) : Prop := St m ∧ IM m ∧ (∀ j : Nat, 0 ≤ mi m 110 j ∧ mi m 110 j ≤ 10) ∧ (∀ j : Nat, -1000000 ≤ mi m 106 j ∧ mi m 106 j ≤ 1000000) ∧ (∀ j : Nat, -1000000 ≤ mi m 109 j ∧ mi m 109 j ≤ 1000000) ∧ (∀ j : Nat, -100000 ≤ mi m 114 j ∧ mi m 114 j ≤ 100000) ∧ (0 ≤ mi m 86 39 ∧ mi m 86 39 ≤ 200) ∧ (0 ≤ mi m 86 40 ∧ mi m 86 40 ≤ 10) ∧ ∀ j : Nat, mi m 89 j ≥ 0 → mi m 89 j % 10 ≤ 3
theorem SameP.RF {m M : AM} (h : SameP m M) (hr : RF m) : RF M := by
  obtain ⟨L, rfl⟩ := h.ex
  exact hr
theorem SameP.cd {m M : AM} (h : SameP m M) : cdX M = cdX m := by
  obtain ⟨L, rfl⟩ := h.ex
  rfl
theorem SameP.rd {m M : AM} (h : SameP m M) (b : Int) : rdM M b = rdM m b := by
  obtain ⟨L, rfl⟩ := h.ex
  rfl
theorem inM_rng {m : AM} (hr : RF m) (b i : Int) : -1000000000 ≤ (inM m b i).2 ∧ (inM m b i).2 ≤ 1000000000 := by
  obtain ⟨-, -, h1, -, h2, -⟩ := hr
  have h1 := h1 (4 * (mi m 89 (4 * b + i).toNat / 10) + mi m 89 (4 * b + i).toNat % 10).toNat
  have h2 := h2 (4 * (mi m 89 (4 * b + i).toNat / 10) + mi m 89 (4 * b + i).toNat % 10).toNat
  unfold inM
  repeat' split
  all_goals (dsimp only; omega)

set_option maxRecDepth 20000 in
set_option maxHeartbeats 4000000 in
theorem lp_worked {G : QW} {m : AM} {b to : Int} {E : Int × (Nat → Int)} (hRF : RF m) (hb0 : 0 ≤ b) (hb5 : b ≤ 5) (ht0 : 0 ≤ to) (ht1 : to ≤ 160) : ∀ (c : Nat) (k n : Int) (M : AM), SameP m M → k + c = 170 * b + to → 170 * b ≤ k → 0 ≤ n → n + c ≤ 160 → sWF (cdX m) c k n → (∀ j : Nat, (j : Int) < n → -1000000000 ≤ ml M 115 j ∧ ml M 115 j ≤ 1000000000) → sEV (cdX m) (rdM m b) c k n (ml M 115) = E → qJ G mX12_worked { frames := 1, cells := 0, slots := 0, locals := 60 * 1 } (qF G (RpW m E) 0 0) 12 [(0, vR 86), (1, vI b), (3, vI to), (4, vI n), (5, vI k)] [] M 0 0 := by
  intro c
  induction c with
  | zero =>
    intro k n M hs hk hk0 hn hc hwf hst hE
    obtain ⟨hS, hI, hf1, hsl, hpt, hfe, htk, hca, hwm⟩ := hs.RF hRF
    refine j_iload rfl rfl ?_
    refine j_sipush rfl (by decide) ?_
    refine j_iload_n rfl rfl ?_
    refine j_imul rfl ?_
    refine j_iload_n rfl rfl ?_
    refine j_iadd rfl ?_
    refine j_icmp_ge (tgt := 310) rfl (by decide) (by omega) (by omega) (by omega) (by omega) (fun hb21_1 => ?_) (fun hb21_1 => by exfalso; omega)
    refine j_iconst rfl ?_
    refine j_iret rfl rfl ?_ rfl (Nat.le_refl _)
    have hn1 : n = 1 := hwf
    have e : (0, ml M 115) = E := hE
    subst e
    exact ⟨hs, rfl, fun _ => ⟨rfl, hst 0 (by omega)⟩⟩
  | succ c ih =>
    intro k n M hs hk hk0 hn hc hwf hst hE
    have hF := hs.RF hRF
    obtain ⟨hS, hI, hf1, hsl, hpt, hfe, htk, hca, hwm0⟩ := hs.RF hRF
    have hck : cdX m k = (opM (mi M 98 k.toNat), (mi M 99 k.toNat)) := by rw [← hs.cd]; rfl
    simp only [sWF, hck] at hwf
    simp only [sEV, hck] at hE
    obtain ⟨-, hW⟩ := hwf
    have hA : opM (mi M 98 k.toNat) ≤ 16 := by rcases hW with h | h | h <;> omega
    have hO := opM_cases hA
    have W0 : (1 ≤ (mi M 98 k.toNat) ∧ (mi M 98 k.toNat) ≤ 6 ∧ ((mi M 98 k.toNat) = 2 → 0 ≤ (mi M 99 k.toNat) ∧ (mi M 99 k.toNat) ≤ 7) ∧ ((mi M 98 k.toNat) = 3 → 0 ≤ (mi M 99 k.toNat) ∧ (mi M 99 k.toNat) ≤ 3) ∧ ((mi M 98 k.toNat) = 4 → 0 ≤ (mi M 99 k.toNat) ∧ (mi M 99 k.toNat) ≤ 2)) ∨ ((mi M 98 k.toNat) = 7 ∧ 1 ≤ n) ∨ ((mi M 98 k.toNat) > 7 ∧ 2 ≤ n) := by
      rcases hW with ⟨h, g0, g1, g2, g3, -⟩ | ⟨h, g, -⟩ | ⟨h, h2, g, -⟩ <;> omega
    have pushed : ∀ x : Int, rdM M b (opM (mi M 98 k.toNat)) (mi M 99 k.toNat) = (0, x) → -1000000000 ≤ x → x ≤ 1000000000 → (mi M 98 k.toNat) ≤ 6 → qJ G mX12_worked { frames := 1, cells := 0, slots := 0, locals := 60 * 1 } (qF G (RpW m E) 0 0) 12 [(0, vR 86), (1, vI b), (3, vI to), (4, vI (n + 1)), (5, vI (k + 1))] [] (sl M 115 n.toNat x) 0 0 := by
      intro x hx hx1 hx2 ha
      rcases hW with ⟨hw, -, -, -, -, hw2⟩ | ⟨hw, -⟩ | ⟨hw, -⟩
      · refine ih (k + 1) (n + 1) (sl M 115 n.toNat x) (hs.sl _ _) (by omega) (by omega) (by omega) (by omega) hw2 (fun j hj => ?_) ?_
        · by_cases e : j = n.toNat
          · rw [e, ml_sl_same M 115 n.toNat (by omega) (by omega)]
            exact ⟨hx1, hx2⟩
          · rw [ml_sl_ne M x (fun q => e q.2)]
            exact hst j (by omega)
        · rw [ml_up (by omega) (by omega)]
          rw [← hs.rd b] at hE
          rw [if_pos hw, hx, if_neg (fun q => q rfl), hs.rd b] at hE
          exact hE
      · exfalso; omega
      · exfalso; omega
    have negd : (mi M 98 k.toNat) = 7 → qJ G mX12_worked { frames := 1, cells := 0, slots := 0, locals := 60 * 1 } (qF G (RpW m E) 0 0) 12 [(0, vR 86), (1, vI b), (3, vI to), (4, vI n), (5, vI (k + 1))] [] (sl M 115 (n - 1).toNat (-ml M 115 (n - 1).toNat)) 0 0 := by
      intro ha
      rcases hW with ⟨hw, -⟩ | ⟨hw, hn1, hw2⟩ | ⟨hw, -⟩
      · exfalso; omega
      · have hy := hst (n - 1).toNat (by omega)
        refine ih (k + 1) n _ (hs.sl _ _) (by omega) (by omega) (by omega) (by omega) hw2 (fun j hj => ?_) ?_
        · by_cases e : j = (n - 1).toNat
          · rw [e, ml_sl_same M 115 (n - 1).toNat (by omega) (by omega)]
            omega
          · rw [ml_sl_ne M _ (fun q => e q.2)]
            exact hst j (by omega)
        · rw [ml_up (by omega) (by omega)]
          rw [if_neg (by omega), if_pos hw] at hE
          exact hE
      · exfalso; omega
    have fault4 : (inM M b (mi M 99 k.toNat)).1 ≠ 0 → (mi M 98 k.toNat) = 3 → RpW m E (some (vI 4)) (FX12_readInput M b (mi M 99 k.toNat) n).2 := by
      intro hp ha
      have h4 := inM_4 hp
      have hrd : rdM m b (opM (mi M 98 k.toNat)) (mi M 99 k.toNat) = inM M b (mi M 99 k.toNat) := by rw [← hs.rd b, ha]; rfl
      rcases hW with ⟨hw, -⟩ | ⟨hw, -⟩ | ⟨hw, -⟩
      · rw [if_pos hw, hrd, if_pos hp, h4] at hE
        subst hE
        rw [FX12_readInput_sp, if_pos hp]
        exact ⟨hs, rfl, fun q => absurd q (show ¬ (4 : Int) = 0 by decide)⟩
      · exfalso; omega
      · exfalso; omega
    have e1 : (n + (-1)) - 1 = n - 2 := by omega
    have e2 : n + (-1) = n - 1 := by omega
    have fault3 : (mi M 98 k.toNat) = 47 ∨ (mi M 98 k.toNat) = 37 → (ml M 115 (n + (-1)).toNat) = 0 → RpW m E (some (vI 3)) M := by
      intro ha hy
      rw [e2] at hy
      rcases hW with ⟨hw, -⟩ | ⟨hw, -⟩ | ⟨hw, hw2, hn2, -⟩
      · exfalso; omega
      · exfalso; omega
      · have hj : (sJN (opM (mi M 98 k.toNat)) (ml M 115 (n - 2).toNat) (ml M 115 (n - 1).toNat)).1 = 3 := by
          have h15 : opM (mi M 98 k.toNat) = 15 ∨ opM (mi M 98 k.toNat) = 16 := by omega
          rw [hy]
          unfold sJN
          rw [if_neg (by omega), if_neg (by omega), if_neg (by omega), if_neg (by omega), if_neg (by omega), if_pos h15, if_pos rfl]
        rw [if_neg (by omega), if_neg (by omega), hj, if_pos (by decide)] at hE
        subst hE
        exact ⟨hs, rfl, fun q => absurd q (show ¬ (3 : Int) = 0 by decide)⟩
    have joinR : (mi M 98 k.toNat) > 7 → ((mi M 98 k.toNat) = 47 ∨ (mi M 98 k.toNat) = 37 → (ml M 115 (n + (-1)).toNat) ≠ 0) → (FX12_twoOf M (mi M 98 k.toNat) (ml M 115 ((n + (-1)) - 1).toNat) (ml M 115 (n + (-1)).toNat)) = (sJN (opM (mi M 98 k.toNat)) (ml M 115 (n - 2).toNat) (ml M 115 (n - 1).toNat)).2 ∧ (-1000000000000000000 ≤ (FX12_twoOf M (mi M 98 k.toNat) (ml M 115 ((n + (-1)) - 1).toNat) (ml M 115 (n + (-1)).toNat)) ∧ (FX12_twoOf M (mi M 98 k.toNat) (ml M 115 ((n + (-1)) - 1).toNat) (ml M 115 (n + (-1)).toNat)) ≤ 1000000000000000000) ∧ (sJN (opM (mi M 98 k.toNat)) (ml M 115 (n - 2).toNat) (ml M 115 (n - 1).toNat)).1 = if (FX12_twoOf M (mi M 98 k.toNat) (ml M 115 ((n + (-1)) - 1).toNat) (ml M 115 (n + (-1)).toNat)) > 1000000000 ∨ (FX12_twoOf M (mi M 98 k.toNat) (ml M 115 ((n + (-1)) - 1).toNat) (ml M 115 (n + (-1)).toNat)) < -1000000000 then 2 else 0 := by
      intro ha hy
      rw [e1, e2] at *
      have hn2 : 2 ≤ n := by omega
      have xr := hst (n - 2).toNat (by omega)
      have yr := hst (n - 1).toNat (by omega)
      have h7 : 7 ≤ opM (mi M 98 k.toNat) := by omega
      have et := FX12_twoOf_sp M (a := (mi M 98 k.toNat)) (x := ml M 115 (n - 2).toNat) (y := ml M 115 (n - 1).toNat) xr h7 hA hy
      rw [et]
      exact ⟨rfl, sJN_rng _ xr.1 xr.2 yr.1 yr.2, sJN_f h7 hA (fun q => hy (by omega)) xr.1 xr.2⟩
    have joined : (mi M 98 k.toNat) > 7 → ((mi M 98 k.toNat) = 47 ∨ (mi M 98 k.toNat) = 37 → (ml M 115 (n + (-1)).toNat) ≠ 0) → ¬ (ml (sl M 115 ((n + (-1)) - 1).toNat (FX12_twoOf M (mi M 98 k.toNat) (ml M 115 ((n + (-1)) - 1).toNat) (ml M 115 (n + (-1)).toNat))) 115 ((n + (-1)) - 1).toNat > 1000000000 ∨ ml (sl M 115 ((n + (-1)) - 1).toNat (FX12_twoOf M (mi M 98 k.toNat) (ml M 115 ((n + (-1)) - 1).toNat) (ml M 115 (n + (-1)).toNat))) 115 ((n + (-1)) - 1).toNat < -1000000000) → qJ G mX12_worked { frames := 1, cells := 0, slots := 0, locals := 60 * 1 } (qF G (RpW m E) 0 0) 12 [(0, vR 86), (1, vI b), (3, vI to), (4, vI (n + (-1))), (5, vI (k + 1))] [] (sl M 115 ((n + (-1)) - 1).toNat (FX12_twoOf M (mi M 98 k.toNat) (ml M 115 ((n + (-1)) - 1).toNat) (ml M 115 (n + (-1)).toNat))) 0 0 := by
      intro ha hy hm
      obtain ⟨r1, r2, r3⟩ := joinR ha hy
      rw [ml_sl_same M 115 _ (by omega) (by omega)] at hm
      rw [if_neg hm] at r3
      rcases hW with ⟨hw, -⟩ | ⟨hw, -⟩ | ⟨hw, hw2, hn2, hw3⟩
      · exfalso; omega
      · exfalso; omega
      · rw [e2] at *
        refine ih (k + 1) (n - 1) _ (hs.sl _ _) (by omega) (by omega) (by omega) (by omega) hw3 (fun j hj => ?_) ?_
        · by_cases e : j = ((n - 1) - 1).toNat
          · rw [e, ml_sl_same M 115 _ (by omega) (by omega)]
            omega
          · rw [ml_sl_ne M _ (fun q => e q.2)]
            exact hst j (by omega)
        · rw [ml_up (by omega) (by omega)]
          rw [if_neg (by omega), if_neg (by omega), r3, if_neg (fun q => q rfl), ← r1] at hE
          rw [show (n - 1) - 1 = n - 2 from by omega] at *
          exact hE
    have fault2 : (mi M 98 k.toNat) > 7 → ((mi M 98 k.toNat) = 47 ∨ (mi M 98 k.toNat) = 37 → (ml M 115 (n + (-1)).toNat) ≠ 0) → (ml (sl M 115 ((n + (-1)) - 1).toNat (FX12_twoOf M (mi M 98 k.toNat) (ml M 115 ((n + (-1)) - 1).toNat) (ml M 115 (n + (-1)).toNat))) 115 ((n + (-1)) - 1).toNat > 1000000000 ∨ ml (sl M 115 ((n + (-1)) - 1).toNat (FX12_twoOf M (mi M 98 k.toNat) (ml M 115 ((n + (-1)) - 1).toNat) (ml M 115 (n + (-1)).toNat))) 115 ((n + (-1)) - 1).toNat < -1000000000) → RpW m E (some (vI 2)) (sl M 115 ((n + (-1)) - 1).toNat (FX12_twoOf M (mi M 98 k.toNat) (ml M 115 ((n + (-1)) - 1).toNat) (ml M 115 (n + (-1)).toNat))) := by
      intro ha hy hm
      obtain ⟨r1, r2, r3⟩ := joinR ha hy
      rw [ml_sl_same M 115 _ (by omega) (by omega)] at hm
      rw [if_pos hm] at r3
      rw [if_neg (by omega), if_neg (by omega), r3, if_pos (by decide)] at hE
      subst hE
      exact ⟨hs.sl _ _, rfl, fun q => absurd q (show ¬ (2 : Int) = 0 by decide)⟩
    clear hW hO hE hck ih
    refine j_iload rfl rfl ?_
    refine j_sipush rfl (by decide) ?_
    refine j_iload_n rfl rfl ?_
    refine j_imul rfl ?_
    refine j_iload_n rfl rfl ?_
    refine j_iadd rfl ?_
    refine j_icmp_ge (tgt := 310) rfl (by decide) (by omega) (by omega) (by omega) (by omega) (fun hb21_1 => by exfalso; omega) (fun hb21_1 => ?_)
    · skip
      refine j_aload_n rfl rfl ?_
      refine j_getR (q := 98) rfl f_X12_44 rfl (hS.lt (by decide)) (hS.k (by decide) (by decide)) (hS.r (by decide)) ?_
      refine j_iload rfl rfl ?_
      refine j_bald (n := 1190) rfl (hS.lt (by decide)) (hS.k (by decide) (by decide)) (hS.n (by decide) (by decide)) (by omega) (by omega) (by decide) ?_
      have u30_1 := hI.a 98 (0) 124 (by decide) k.toNat
      refine j_istore rfl (by decide) ?_
      have W := W0
      refine j_iload rfl rfl ?_
      refine j_bipush rfl (by decide) ?_
      refine j_icmp_gt (tgt := 197) rfl (by decide) (by omega) (by omega) (by omega) (by omega) (fun hb37_1 => ?_) (fun hb37_1 => ?_)
      · skip
        refine j_iload rfl rfl ?_
        refine j_bipush rfl (by decide) ?_
        refine j_icmp_ne (tgt := 226) rfl (by decide) (by omega) (by omega) (by omega) (by omega) (fun hb201_1 => ?_) (fun hb201_1 => ?_)
        · skip
          refine j_iinc rfl rfl (by decide) ?_
          have yr := hst (n + (-1)).toNat (by omega)
          refine j_aload_n rfl rfl ?_
          refine j_getR (q := 115) rfl f_X12_96 rfl (hS.lt (by decide)) (hS.k (by decide) (by decide)) (hS.r (by decide)) ?_
          refine j_iload rfl rfl ?_
          refine j_lald (n := 170) rfl (hS.lt (by decide)) (hS.k (by decide) (by decide)) (hS.n (by decide) (by decide)) (by omega) (by omega) (by decide) ?_
          have u235_1 := ml_rng M 115 (n + (-1)).toNat
          refine j_lconst (v := 0) rfl (by decide) ?_
          refine j_lc_ne (tgt := 257) rfl rfl (by decide) (by omega) (by omega) (by omega) (by omega) (fun hb237_1 => ?_) (fun hb237_1 => ?_)
          · skip
            have xr := hst ((n + (-1)) - 1).toNat (by omega)
            have yr := hst (n + (-1)).toNat (by omega)
            refine j_aload_n rfl rfl ?_
            refine j_getR (q := 115) rfl f_X12_96 rfl (hS.lt (by decide)) (hS.k (by decide) (by decide)) (hS.r (by decide)) ?_
            refine j_iload rfl rfl ?_
            refine j_iconst rfl ?_
            refine j_isub rfl ?_
            refine j_iload rfl rfl ?_
            refine j_aload_n rfl rfl ?_
            refine j_getR (q := 115) rfl f_X12_96 rfl (hS.lt (by decide)) (hS.k (by decide) (by decide)) (hS.r (by decide)) ?_
            refine j_iload rfl rfl ?_
            refine j_iconst rfl ?_
            refine j_isub rfl ?_
            refine j_lald (n := 170) rfl (hS.lt (by decide)) (hS.k (by decide) (by decide)) (hS.n (by decide) (by decide)) (by omega) (by omega) (by decide) ?_
            have u275_1 := ml_rng M 115 ((n + (-1)) - 1).toNat
            refine j_aload_n rfl rfl ?_
            refine j_getR (q := 115) rfl f_X12_96 rfl (hS.lt (by decide)) (hS.k (by decide) (by decide)) (hS.r (by decide)) ?_
            refine j_iload rfl rfl ?_
            refine j_lald (n := 170) rfl (hS.lt (by decide)) (hS.k (by decide) (by decide)) (hS.n (by decide) (by decide)) (by omega) (by omega) (by decide) ?_
            have u282_1 := ml_rng M 115 (n + (-1)).toNat
            refine j_callS (As := [_, _, _]) rfl okX12_twoOf c_X12_328 (ct_X12_twoOf (by omega) (by omega) (by omega) (by omega) (by omega) (by omega) (by omega)) rfl rfl (Nat.le_of_ble_eq_true rfl) (by decide) (by decide) ?_
            rintro vq mq ⟨e1, e2⟩
            rw [e1, e2]
            clear e1 e2
            simp only [Option.toList_some, Option.toList_none, List.cons_append, List.nil_append]
            refine j_last (n := 170) rfl (hS.lt (by decide)) (hS.k (by decide) (by decide)) (hS.n (by decide) (by decide)) (by omega) (by omega) (by first | decide | omega) ?_
            have JR := joinR (by omega) (by omega)
            refine j_aload_n rfl rfl ?_
            refine j_getR (q := 115) rfl f_X12_96 rfl (hS.lt (by decide)) (hS.k (by decide) (by decide)) (hS.r (by decide)) ?_
            refine j_iload rfl rfl ?_
            refine j_iconst rfl ?_
            refine j_isub rfl ?_
            refine j_lald (n := 170) rfl (hS.lt (by decide)) (hS.k (by decide) (by decide)) (hS.n (by decide) (by decide)) (by omega) (by omega) (by decide) ?_
            have u295_1 := ml_rng (sl M 115 ((n + (-1)) - 1).toNat (FX12_twoOf M (mi M 98 k.toNat) (ml M 115 ((n + (-1)) - 1).toNat) (ml M 115 (n + (-1)).toNat))) 115 ((n + (-1)) - 1).toNat
            refine j_callS (As := [_]) rfl okX12_isMuch c_X12_332 (ct_X12_isMuch (by omega) (by omega)) rfl rfl (Nat.le_of_ble_eq_true rfl) (by decide) (by decide) ?_
            rintro vq mq ⟨e1, e2⟩
            rw [e1, e2]
            clear e1 e2
            simp only [Option.toList_some, Option.toList_none, List.cons_append, List.nil_append]
            refine j_bif_eq (tgt := 304) rfl (by decide) (fun hb299_1 => ?_) (fun hb299_1 => ?_)
            · skip
              refine j_iinc rfl rfl (by decide) ?_
              refine j_goto (tgt := 12) rfl (by decide) ?_
              refine j_loc (ls' := [(0, vR 86), (1, vI b), (3, vI to), (4, vI (n + (-1))), (5, vI (k + 1))]) rfl ?_
              exact joined (by omega) (by omega) hb299_1
            · skip
              refine j_iconst rfl ?_
              refine j_iret rfl rfl ?_ rfl (Nat.le_refl _)
              exact fault2 (by omega) (by omega) hb299_1
          · skip
            refine j_iload rfl rfl ?_
            refine j_bipush rfl (by decide) ?_
            refine j_icmp_eq (tgt := 255) rfl (by decide) (by omega) (by omega) (by omega) (by omega) (fun hb245_1 => ?_) (fun hb245_1 => ?_)
            · skip
              refine j_iconst rfl ?_
              refine j_iret rfl rfl ?_ rfl (Nat.le_refl _)
              exact fault3 (by omega) (by omega)
            · skip
              refine j_iload rfl rfl ?_
              refine j_bipush rfl (by decide) ?_
              refine j_icmp_ne (tgt := 257) rfl (by decide) (by omega) (by omega) (by omega) (by omega) (fun hb252_1 => ?_) (fun hb252_1 => ?_)
              · skip
                have xr := hst ((n + (-1)) - 1).toNat (by omega)
                have yr := hst (n + (-1)).toNat (by omega)
                refine j_aload_n rfl rfl ?_
                refine j_getR (q := 115) rfl f_X12_96 rfl (hS.lt (by decide)) (hS.k (by decide) (by decide)) (hS.r (by decide)) ?_
                refine j_iload rfl rfl ?_
                refine j_iconst rfl ?_
                refine j_isub rfl ?_
                refine j_iload rfl rfl ?_
                refine j_aload_n rfl rfl ?_
                refine j_getR (q := 115) rfl f_X12_96 rfl (hS.lt (by decide)) (hS.k (by decide) (by decide)) (hS.r (by decide)) ?_
                refine j_iload rfl rfl ?_
                refine j_iconst rfl ?_
                refine j_isub rfl ?_
                refine j_lald (n := 170) rfl (hS.lt (by decide)) (hS.k (by decide) (by decide)) (hS.n (by decide) (by decide)) (by omega) (by omega) (by decide) ?_
                have u275_2 := ml_rng M 115 ((n + (-1)) - 1).toNat
                refine j_aload_n rfl rfl ?_
                refine j_getR (q := 115) rfl f_X12_96 rfl (hS.lt (by decide)) (hS.k (by decide) (by decide)) (hS.r (by decide)) ?_
                refine j_iload rfl rfl ?_
                refine j_lald (n := 170) rfl (hS.lt (by decide)) (hS.k (by decide) (by decide)) (hS.n (by decide) (by decide)) (by omega) (by omega) (by decide) ?_
                have u282_2 := ml_rng M 115 (n + (-1)).toNat
                refine j_callS (As := [_, _, _]) rfl okX12_twoOf c_X12_328 (ct_X12_twoOf (by omega) (by omega) (by omega) (by omega) (by omega) (by omega) (by omega)) rfl rfl (Nat.le_of_ble_eq_true rfl) (by decide) (by decide) ?_
                rintro vq mq ⟨e1, e2⟩
                rw [e1, e2]
                clear e1 e2
                simp only [Option.toList_some, Option.toList_none, List.cons_append, List.nil_append]
                refine j_last (n := 170) rfl (hS.lt (by decide)) (hS.k (by decide) (by decide)) (hS.n (by decide) (by decide)) (by omega) (by omega) (by first | decide | omega) ?_
                have JR := joinR (by omega) (by omega)
                refine j_aload_n rfl rfl ?_
                refine j_getR (q := 115) rfl f_X12_96 rfl (hS.lt (by decide)) (hS.k (by decide) (by decide)) (hS.r (by decide)) ?_
                refine j_iload rfl rfl ?_
                refine j_iconst rfl ?_
                refine j_isub rfl ?_
                refine j_lald (n := 170) rfl (hS.lt (by decide)) (hS.k (by decide) (by decide)) (hS.n (by decide) (by decide)) (by omega) (by omega) (by decide) ?_
                have u295_2 := ml_rng (sl M 115 ((n + (-1)) - 1).toNat (FX12_twoOf M (mi M 98 k.toNat) (ml M 115 ((n + (-1)) - 1).toNat) (ml M 115 (n + (-1)).toNat))) 115 ((n + (-1)) - 1).toNat
                refine j_callS (As := [_]) rfl okX12_isMuch c_X12_332 (ct_X12_isMuch (by omega) (by omega)) rfl rfl (Nat.le_of_ble_eq_true rfl) (by decide) (by decide) ?_
                rintro vq mq ⟨e1, e2⟩
                rw [e1, e2]
                clear e1 e2
                simp only [Option.toList_some, Option.toList_none, List.cons_append, List.nil_append]
                refine j_bif_eq (tgt := 304) rfl (by decide) (fun hb299_2 => ?_) (fun hb299_2 => ?_)
                · skip
                  refine j_iinc rfl rfl (by decide) ?_
                  refine j_goto (tgt := 12) rfl (by decide) ?_
                  refine j_loc (ls' := [(0, vR 86), (1, vI b), (3, vI to), (4, vI (n + (-1))), (5, vI (k + 1))]) rfl ?_
                  exact joined (by omega) (by omega) hb299_2
                · skip
                  refine j_iconst rfl ?_
                  refine j_iret rfl rfl ?_ rfl (Nat.le_refl _)
                  exact fault2 (by omega) (by omega) hb299_2
              · skip
                refine j_iconst rfl ?_
                refine j_iret rfl rfl ?_ rfl (Nat.le_refl _)
                exact fault3 (by omega) (by omega)
        · skip
          refine j_aload_n rfl rfl ?_
          refine j_getR (q := 115) rfl f_X12_96 rfl (hS.lt (by decide)) (hS.k (by decide) (by decide)) (hS.r (by decide)) ?_
          refine j_iload rfl rfl ?_
          refine j_iconst rfl ?_
          refine j_isub rfl ?_
          refine j_aload_n rfl rfl ?_
          refine j_getR (q := 115) rfl f_X12_96 rfl (hS.lt (by decide)) (hS.k (by decide) (by decide)) (hS.r (by decide)) ?_
          refine j_iload rfl rfl ?_
          refine j_iconst rfl ?_
          refine j_isub rfl ?_
          refine j_lald (n := 170) rfl (hS.lt (by decide)) (hS.k (by decide) (by decide)) (hS.n (by decide) (by decide)) (by omega) (by omega) (by decide) ?_
          have u220_1 := ml_rng M 115 (n - 1).toNat
          refine j_lneg rfl ?_
          refine j_last (n := 170) rfl (hS.lt (by decide)) (hS.k (by decide) (by decide)) (hS.n (by decide) (by decide)) (by omega) (by omega) (by first | decide | omega) ?_
          refine j_goto (tgt := 304) rfl (by decide) ?_
          refine j_iinc rfl rfl (by decide) ?_
          refine j_goto (tgt := 12) rfl (by decide) ?_
          refine j_loc (ls' := [(0, vR 86), (1, vI b), (3, vI to), (4, vI n), (5, vI (k + 1))]) rfl ?_
          exact negd (by omega)
      · skip
        refine j_iload rfl rfl ?_
        by_cases hs42_1_1 : (mi M 98 k.toNat) = 1
        · skip
          refine j_tableIn (tgt := 76) rfl (by omega) (by omega) (by omega) (by omega) (by rw [hs42_1_1]; rfl) (by decide) ?_
          refine j_aload_n rfl rfl ?_
          refine j_getR (q := 115) rfl f_X12_96 rfl (hS.lt (by decide)) (hS.k (by decide) (by decide)) (hS.r (by decide)) ?_
          refine j_iload rfl rfl ?_
          refine j_aload_n rfl rfl ?_
          refine j_getR (q := 99) rfl f_X12_48 rfl (hS.lt (by decide)) (hS.k (by decide) (by decide)) (hS.r (by decide)) ?_
          refine j_iload rfl rfl ?_
          refine j_iald (n := 1190) rfl (hS.lt (by decide)) (hS.k (by decide) (by decide)) (hS.n (by decide) (by decide)) (by omega) (by omega) (by decide) ?_
          have u88_1 := hI.a 99 (0) 99999 (by decide) k.toNat
          refine j_i2l rfl (by omega) (by omega) ?_
          refine j_last (n := 170) rfl (hS.lt (by decide)) (hS.k (by decide) (by decide)) (hS.n (by decide) (by decide)) (by omega) (by omega) (by first | decide | omega) ?_
          refine j_goto (tgt := 191) rfl (by decide) ?_
          refine j_iinc rfl rfl (by decide) ?_
          refine j_goto (tgt := 304) rfl (by decide) ?_
          refine j_iinc rfl rfl (by decide) ?_
          refine j_goto (tgt := 12) rfl (by decide) ?_
          refine j_loc (ls' := [(0, vR 86), (1, vI b), (3, vI to), (4, vI (n + 1)), (5, vI (k + 1))]) rfl ?_
          exact pushed (mi M 99 k.toNat) (by rw [show mi M 98 k.toNat = 1 from by omega]; rfl) (by omega) (by omega) (by omega)
        · skip
          by_cases hs42_1_2 : (mi M 98 k.toNat) = 2
          · skip
            refine j_tableIn (tgt := 94) rfl (by omega) (by omega) (by omega) (by omega) (by rw [hs42_1_2]; rfl) (by decide) ?_
            refine j_aload_n rfl rfl ?_
            refine j_getR (q := 115) rfl f_X12_96 rfl (hS.lt (by decide)) (hS.k (by decide) (by decide)) (hS.r (by decide)) ?_
            refine j_iload rfl rfl ?_
            refine j_aload_n rfl rfl ?_
            refine j_getR (q := 106) rfl f_X12_69 rfl (hS.lt (by decide)) (hS.k (by decide) (by decide)) (hS.r (by decide)) ?_
            refine j_bipush rfl (by decide) ?_
            refine j_iload_n rfl rfl ?_
            refine j_imul rfl ?_
            refine j_aload_n rfl rfl ?_
            refine j_getR (q := 99) rfl f_X12_48 rfl (hS.lt (by decide)) (hS.k (by decide) (by decide)) (hS.r (by decide)) ?_
            refine j_iload rfl rfl ?_
            refine j_iald (n := 1190) rfl (hS.lt (by decide)) (hS.k (by decide) (by decide)) (hS.n (by decide) (by decide)) (by omega) (by omega) (by decide) ?_
            have u114_1 := hI.a 99 (0) 99999 (by decide) k.toNat
            refine j_iadd rfl ?_
            refine j_iald (n := 48) rfl (hS.lt (by decide)) (hS.k (by decide) (by decide)) (hS.n (by decide) (by decide)) (by omega) (by omega) (by decide) ?_
            have u116_1 := mi_rng M 106 ((8 * b) + (mi M 99 k.toNat)).toNat
            refine j_i2l rfl (by omega) (by omega) ?_
            refine j_last (n := 170) rfl (hS.lt (by decide)) (hS.k (by decide) (by decide)) (hS.n (by decide) (by decide)) (by omega) (by omega) (by first | decide | omega) ?_
            refine j_goto (tgt := 191) rfl (by decide) ?_
            refine j_iinc rfl rfl (by decide) ?_
            refine j_goto (tgt := 304) rfl (by decide) ?_
            refine j_iinc rfl rfl (by decide) ?_
            refine j_goto (tgt := 12) rfl (by decide) ?_
            have hbb := hsl ((8 * b) + (mi M 99 k.toNat)).toNat
            refine j_loc (ls' := [(0, vR 86), (1, vI b), (3, vI to), (4, vI (n + 1)), (5, vI (k + 1))]) rfl ?_
            exact pushed (mi M 106 ((8 * b) + (mi M 99 k.toNat)).toNat) (by rw [show mi M 98 k.toNat = 2 from by omega]; rfl) (by omega) (by omega) (by omega)
          · skip
            by_cases hs42_1_3 : (mi M 98 k.toNat) = 3
            · skip
              refine j_tableIn (tgt := 122) rfl (by omega) (by omega) (by omega) (by omega) (by rw [hs42_1_3]; rfl) (by decide) ?_
              refine j_aload_n rfl rfl ?_
              refine j_iload_n rfl rfl ?_
              refine j_aload_n rfl rfl ?_
              refine j_getR (q := 99) rfl f_X12_48 rfl (hS.lt (by decide)) (hS.k (by decide) (by decide)) (hS.r (by decide)) ?_
              refine j_iload rfl rfl ?_
              refine j_iald (n := 1190) rfl (hS.lt (by decide)) (hS.k (by decide) (by decide)) (hS.n (by decide) (by decide)) (by omega) (by omega) (by decide) ?_
              have u130_1 := hI.a 99 (0) 99999 (by decide) k.toNat
              refine j_iload rfl rfl ?_
              refine j_callV (ci := 12) rfl okX12_readInput c_X12_318 (ct_X12_readInput hS hI (by omega) (by omega) (by omega) (by omega) (by omega) (by omega) (by omega) (by omega) (by omega) (by omega) (by omega) (by omega) (hwm0 _) hf1) rfl rfl (hS.lt (by decide)) (hS.k (by decide) (by decide)) (by decide) rfl (Nat.le_of_ble_eq_true rfl) (by decide) (by decide) ?_
              rintro vq mq ⟨e1, e2⟩
              rw [e1, e2]
              clear e1 e2
              simp only [Option.toList_some, Option.toList_none, List.cons_append, List.nil_append]
              have hri : (FX12_readInput M b (mi M 99 k.toNat) n).1 = 0 ∨ (FX12_readInput M b (mi M 99 k.toNat) n).1 = 4 := by rw [FX12_readInput_sp]; split; exact Or.inr rfl; exact Or.inl rfl
              refine j_if_le (tgt := 191) rfl (by decide) (by omega) (by omega) (fun hb136_1 => ?_) (fun hb136_1 => ?_)
              · skip
                refine j_iinc rfl rfl (by decide) ?_
                refine j_goto (tgt := 304) rfl (by decide) ?_
                refine j_iinc rfl rfl (by decide) ?_
                refine j_goto (tgt := 12) rfl (by decide) ?_
                refine j_loc (ls' := [(0, vR 86), (1, vI b), (3, vI to), (4, vI (n + 1)), (5, vI (k + 1))]) rfl ?_
                have hp : ¬ (inM M b (mi M 99 k.toNat)).1 ≠ 0 := by intro q; rw [FX12_readInput_sp, if_pos q] at hb136_1; have h4 : (4 : Int) ≤ 0 := hb136_1; omega
                have hq : (inM M b (mi M 99 k.toNat)).1 = 0 := Decidable.not_not.mp hp
                rw [FX12_readInput_sp, if_neg hp]
                have ha : mi M 98 k.toNat = 3 := by omega
                have hr := inM_rng hF b (mi M 99 k.toNat)
                exact pushed _ (by rw [ha]; exact Prod.ext hq rfl) hr.1 hr.2 (by omega)
              · skip
                refine j_iconst rfl ?_
                refine j_iret rfl rfl ?_ rfl (Nat.le_refl _)
                exact fault4 (by intro q; rw [FX12_readInput_sp, if_neg (not_not_intro q)] at hb136_1; exact hb136_1 (Int.le_refl 0)) (by omega)
            · skip
              by_cases hs42_1_4 : (mi M 98 k.toNat) = 4
              · skip
                refine j_tableIn (tgt := 141) rfl (by omega) (by omega) (by omega) (by omega) (by rw [hs42_1_4]; rfl) (by decide) ?_
                refine j_aload_n rfl rfl ?_
                refine j_getR (q := 115) rfl f_X12_96 rfl (hS.lt (by decide)) (hS.k (by decide) (by decide)) (hS.r (by decide)) ?_
                refine j_iload rfl rfl ?_
                refine j_aload_n rfl rfl ?_
                refine j_getR (q := 114) rfl f_X12_93 rfl (hS.lt (by decide)) (hS.k (by decide) (by decide)) (hS.r (by decide)) ?_
                refine j_aload_n rfl rfl ?_
                refine j_getR (q := 99) rfl f_X12_48 rfl (hS.lt (by decide)) (hS.k (by decide) (by decide)) (hS.r (by decide)) ?_
                refine j_iload rfl rfl ?_
                refine j_iald (n := 1190) rfl (hS.lt (by decide)) (hS.k (by decide) (by decide)) (hS.n (by decide) (by decide)) (by omega) (by omega) (by decide) ?_
                have u157_1 := hI.a 99 (0) 99999 (by decide) k.toNat
                refine j_iald (n := 3) rfl (hS.lt (by decide)) (hS.k (by decide) (by decide)) (hS.n (by decide) (by decide)) (by omega) (by omega) (by decide) ?_
                have u158_1 := mi_rng M 114 (mi M 99 k.toNat).toNat
                refine j_i2l rfl (by omega) (by omega) ?_
                refine j_last (n := 170) rfl (hS.lt (by decide)) (hS.k (by decide) (by decide)) (hS.n (by decide) (by decide)) (by omega) (by omega) (by first | decide | omega) ?_
                refine j_goto (tgt := 191) rfl (by decide) ?_
                refine j_iinc rfl rfl (by decide) ?_
                refine j_goto (tgt := 304) rfl (by decide) ?_
                refine j_iinc rfl rfl (by decide) ?_
                refine j_goto (tgt := 12) rfl (by decide) ?_
                have hbb := hfe (mi M 99 k.toNat).toNat
                refine j_loc (ls' := [(0, vR 86), (1, vI b), (3, vI to), (4, vI (n + 1)), (5, vI (k + 1))]) rfl ?_
                exact pushed (mi M 114 (mi M 99 k.toNat).toNat) (by rw [show mi M 98 k.toNat = 4 from by omega]; rfl) (by omega) (by omega) (by omega)
              · skip
                by_cases hs42_1_5 : (mi M 98 k.toNat) = 5
                · skip
                  refine j_tableIn (tgt := 164) rfl (by omega) (by omega) (by omega) (by omega) (by rw [hs42_1_5]; rfl) (by decide) ?_
                  refine j_aload_n rfl rfl ?_
                  refine j_getR (q := 115) rfl f_X12_96 rfl (hS.lt (by decide)) (hS.k (by decide) (by decide)) (hS.r (by decide)) ?_
                  refine j_iload rfl rfl ?_
                  refine j_aload_n rfl rfl ?_
                  refine j_getI rfl f_X12_322 rfl (hS.lt (by decide)) (hS.k (by decide) (by decide)) ?_
                  have u171_1 := mi_rng M 86 39
                  refine j_i2l rfl (by omega) (by omega) ?_
                  refine j_last (n := 170) rfl (hS.lt (by decide)) (hS.k (by decide) (by decide)) (hS.n (by decide) (by decide)) (by omega) (by omega) (by first | decide | omega) ?_
                  refine j_goto (tgt := 191) rfl (by decide) ?_
                  refine j_iinc rfl rfl (by decide) ?_
                  refine j_goto (tgt := 304) rfl (by decide) ?_
                  refine j_iinc rfl rfl (by decide) ?_
                  refine j_goto (tgt := 12) rfl (by decide) ?_
                  refine j_loc (ls' := [(0, vR 86), (1, vI b), (3, vI to), (4, vI (n + 1)), (5, vI (k + 1))]) rfl ?_
                  exact pushed (mi M 86 39) (by rw [show mi M 98 k.toNat = 5 from by omega]; rfl) (by omega) (by omega) (by omega)
                · skip
                  refine j_tableOut (tgt := 179) rfl (by omega) (by omega) (by omega) (by decide) ?_
                  refine j_aload_n rfl rfl ?_
                  refine j_getR (q := 115) rfl f_X12_96 rfl (hS.lt (by decide)) (hS.k (by decide) (by decide)) (hS.r (by decide)) ?_
                  refine j_iload rfl rfl ?_
                  refine j_aload_n rfl rfl ?_
                  refine j_getI rfl f_X12_325 rfl (hS.lt (by decide)) (hS.k (by decide) (by decide)) ?_
                  have u186_1 := mi_rng M 86 40
                  refine j_i2l rfl (by omega) (by omega) ?_
                  refine j_last (n := 170) rfl (hS.lt (by decide)) (hS.k (by decide) (by decide)) (hS.n (by decide) (by decide)) (by omega) (by omega) (by first | decide | omega) ?_
                  refine j_iinc rfl rfl (by decide) ?_
                  refine j_goto (tgt := 304) rfl (by decide) ?_
                  refine j_iinc rfl rfl (by decide) ?_
                  refine j_goto (tgt := 12) rfl (by decide) ?_
                  refine j_loc (ls' := [(0, vR 86), (1, vI b), (3, vI to), (4, vI (n + 1)), (5, vI (k + 1))]) rfl ?_
                  exact pushed (mi M 86 40) (by rw [show mi M 98 k.toNat = 6 from by omega]; rfl) (by omega) (by omega) (by omega)

set_option maxRecDepth 20000 in
/-- a run of a program's part: what the model's worked() answers -/
theorem ct_X12_worked {G : QW} {m : AM} (hRF : RF m) {b fr to : Int} (hb0 : 0 ≤ b) (hb5 : b ≤ 5) (hf0 : 0 ≤ fr) (hft : fr ≤ to) (ht0 : 0 ≤ to) (ht1 : to ≤ 160) (hwf : sWF (cdX m) (to - fr).toNat ((170 * b) + fr) 0) : qM G mX12_worked 1 0 0 [vR 86, vI b, vI fr, vI to] m (RpW m (sEV (cdX m) (rdM m b) (to - fr).toNat ((170 * b) + fr) 0 (ml m 115))) := by
  refine qM.intro okX12_worked (Nat.le_of_ble_eq_true rfl) ?_
  refine j_iconst rfl ?_
  refine j_istore rfl (by decide) ?_
  refine j_sipush rfl (by decide) ?_
  refine j_iload_n rfl rfl ?_
  refine j_imul rfl ?_
  refine j_iload_n rfl rfl ?_
  refine j_iadd rfl ?_
  refine j_istore rfl (by decide) ?_
  refine j_loc (ls' := [(0, vR 86), (1, vI b), (3, vI to), (4, vI 0), (5, vI ((170 * b) + fr))]) rfl ?_
  exact lp_worked hRF hb0 hb5 ht0 ht1 (to - fr).toNat ((170 * b) + fr) 0 m (SameP.rf m) (by omega) (by omega) (by omega) (by omega) hwf (fun j hj => by exfalso; omega) rfl


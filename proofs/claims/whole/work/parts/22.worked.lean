theorem abs_tdiv {x y c : Int} (h : -c ≤ x) (h2 : x ≤ c) : -c ≤ x.tdiv y ∧ x.tdiv y ≤ c := by
  have h1 : (x.tdiv y).natAbs ≤ x.natAbs := by rw [Int.natAbs_tdiv]; exact Nat.div_le_self _ _
  omega
theorem abs_tmod {x y c : Int} (h : -c ≤ x) (h2 : x ≤ c) : -c ≤ x.tmod y ∧ x.tmod y ≤ c := by
  have h1 : (x.tmod y).natAbs ≤ x.natAbs := by rw [Int.natAbs_tmod]; exact Nat.mod_le _ _
  omega
theorem abs_mul {x y : Int} (h : -1000000000 ≤ x) (h2 : x ≤ 1000000000) (h3 : -1000000000 ≤ y) (h4 : y ≤ 1000000000) : -1000000000000000000 ≤ x * y ∧ x * y ≤ 1000000000000000000 := by
  have h1 : (x * y).natAbs ≤ 1000000000 * 1000000000 := by
    rw [Int.natAbs_mul]
    exact Nat.mul_le_mul (by omega) (by omega)
  omega
theorem sJN_rng (w : Nat) {x y : Int} (h : -1000000000 ≤ x) (h2 : x ≤ 1000000000) (h3 : -1000000000 ≤ y) (h4 : y ≤ 1000000000) : -1000000000000000000 ≤ (sJN w x y).2 ∧ (sJN w x y).2 ≤ 1000000000000000000 := by
  have a1 := abs_tdiv (y := y) h h2
  have a2 := abs_tmod (y := y) h h2
  have a3 := abs_mul h h2 h3 h4
  unfold sJN
  dsimp only
  repeat' split
  all_goals (dsimp only; repeat' split)
  all_goals omega
theorem sJN_f {w : Nat} {x y : Int} (hw : 7 ≤ w) (hw2 : w ≤ 16) (h0 : w = 15 ∨ w = 16 → y ≠ 0) (h : -1000000000 ≤ x) (h2 : x ≤ 1000000000) : (sJN w x y).1 = if (sJN w x y).2 > 1000000000 ∨ (sJN w x y).2 < -1000000000 then 2 else 0 := by
  have a1 := abs_tdiv (y := y) h h2
  have a2 := abs_tmod (y := y) h h2
  have hc : w = 7 ∨ w = 8 ∨ w = 9 ∨ w = 10 ∨ w = 11 ∨ w = 12 ∨ w = 13 ∨ w = 14 ∨ w = 15 ∨ w = 16 := by omega
  rcases hc with rfl | rfl | rfl | rfl | rfl | rfl | rfl | rfl | rfl | rfl <;> unfold sJN <;> simp
  · split <;> decide
  · split <;> decide
  · split <;> decide
  · split <;> decide
  · split <;> decide
  · have := h0 (Or.inl rfl)
    rw [if_neg this, if_neg (by omega)]
  · have := h0 (Or.inr rfl)
    rw [if_neg this, if_neg (by omega)]
theorem inM_4 {m : AM} {b i : Int} (h : (inM m b i).1 ≠ 0) : (inM m b i).1 = 4 := by
  unfold inM at h ⊢
  by_cases c1 : mi m 89 (4 * b + i).toNat < 0
  · rw [if_pos c1] at h
    exact absurd rfl h
  · rw [if_neg c1] at h ⊢
    by_cases c2 : mi m 110 (4 * (mi m 89 (4 * b + i).toNat / 10) + mi m 89 (4 * b + i).toNat % 10).toNat > 0
    · rw [if_pos c2] at h ⊢
      by_cases c3 : mi m 87 b.toNat = 2
      · rw [if_pos c3] at h
        exact absurd rfl h
      · rw [if_neg c3]
    · rw [if_neg c2] at h
      exact absurd rfl h
theorem SameP.ex {m M : AM} (h : SameP m M) : ∃ L, M = (m.1, L, m.2.2) := ⟨M.2.1, by rw [← h.1, ← h.2.1]⟩
/-- what holds while a run goes on -/
def RF (m : AM) : Prop := St m ∧ IM m ∧ (∀ j : Nat, 0 ≤ mi m 110 j ∧ mi m 110 j ≤ 10) ∧ (∀ j : Nat, -1000000 ≤ mi m 106 j ∧ mi m 106 j ≤ 1000000) ∧ (∀ j : Nat, -1000000 ≤ mi m 109 j ∧ mi m 109 j ≤ 1000000) ∧ (∀ j : Nat, -100000 ≤ mi m 114 j ∧ mi m 114 j ≤ 100000) ∧ (0 ≤ mi m 86 39 ∧ mi m 86 39 ≤ 200) ∧ (0 ≤ mi m 86 40 ∧ mi m 86 40 ≤ 10) ∧ ∀ j : Nat, mi m 89 j ≥ 0 → mi m 89 j % 10 ≤ 3
theorem SameP.RF {m M : AM} (h : SameP m M) (hr : RF m) : RF M := by
  obtain ⟨L, rfl⟩ := h.ex
  exact hr
theorem SameP.cd {m M : AM} (h : SameP m M) : cdX M = cdX m := by
  obtain ⟨L, rfl⟩ := h.ex
  rfl
theorem SameP.rd {m M : AM} (h : SameP m M) (b : Int) : rdM M b = rdM m b := by
  obtain ⟨L, rfl⟩ := h.ex
  rfl
theorem inM_rng {m : AM} (hr : RF m) (b i : Int) : -1000000000 ≤ (inM m b i).2 ∧ (inM m b i).2 ≤ 1000000000 := by
  obtain ⟨-, -, h1, -, h2, -⟩ := hr
  have h1 := h1 (4 * (mi m 89 (4 * b + i).toNat / 10) + mi m 89 (4 * b + i).toNat % 10).toNat
  have h2 := h2 (4 * (mi m 89 (4 * b + i).toNat / 10) + mi m 89 (4 * b + i).toNat % 10).toNat
  unfold inM
  repeat' split
  all_goals (dsimp only; omega)

set_option maxRecDepth 20000 in
set_option maxHeartbeats 4000000 in
theorem lp_worked {G : QW} {m : AM} {b to : Int} {E : Int × (Nat → Int)} (hRF : RF m) (hb0 : 0 ≤ b) (hb5 : b ≤ 5) (ht0 : 0 ≤ to) (ht1 : to ≤ 160) : ∀ (c : Nat) (k n : Int) (M : AM), SameP m M → k + c = 170 * b + to → 170 * b ≤ k → 0 ≤ n → n + c ≤ 160 → sWF (cdX m) c k n → (∀ j : Nat, (j : Int) < n → -1000000000 ≤ ml M 115 j ∧ ml M 115 j ≤ 1000000000) → sEV (cdX m) (rdM m b) c k n (ml M 115) = E → qJ G mX12_worked { frames := 1, cells := 0, slots := 0, locals := 60 * 1 } (qF G (RpW m E) 0 0) 12 [(0, vR 86), (1, vI b), (3, vI to), (4, vI n), (5, vI k)] [] M 0 0 := by
  intro c
  induction c with
  | zero =>
    intro k n M hs hk hk0 hn hc hwf hst hE
    obtain ⟨hS, hI, hf1, hsl, hpt, hfe, htk, hca, hwm⟩ := hs.RF hRF
    refine j_iload rfl rfl ?_
    refine j_sipush rfl (by decide) ?_
    refine j_iload_n rfl rfl ?_
    refine j_imul rfl ?_
    refine j_iload_n rfl rfl ?_
    refine j_iadd rfl ?_
    refine j_icmp_ge (tgt := 310) rfl (by decide) (by omega) (by omega) (by omega) (by omega) (fun hb21_1 => ?_) (fun hb21_1 => by exfalso; omega)
    refine j_iconst rfl ?_
    refine j_iret rfl rfl ?_ rfl (Nat.le_refl _)
    have hn1 : n = 1 := hwf
    have e : (0, ml M 115) = E := hE
    subst e
    exact ⟨hs, rfl, fun _ => ⟨rfl, hst 0 (by omega)⟩⟩
  | succ c ih =>
    intro k n M hs hk hk0 hn hc hwf hst hE
    have hF := hs.RF hRF
    obtain ⟨hS, hI, hf1, hsl, hpt, hfe, htk, hca, hwm0⟩ := hs.RF hRF
    have hck : cdX m k = (opM (mi M 98 k.toNat), (mi M 99 k.toNat)) := by rw [← hs.cd]; rfl
    simp only [sWF, hck] at hwf
    simp only [sEV, hck] at hE
    obtain ⟨-, hW⟩ := hwf
    have hA : opM (mi M 98 k.toNat) ≤ 16 := by rcases hW with h | h | h <;> omega
    have hO := opM_cases hA
    have W0 : (1 ≤ (mi M 98 k.toNat) ∧ (mi M 98 k.toNat) ≤ 6 ∧ ((mi M 98 k.toNat) = 2 → 0 ≤ (mi M 99 k.toNat) ∧ (mi M 99 k.toNat) ≤ 7) ∧ ((mi M 98 k.toNat) = 3 → 0 ≤ (mi M 99 k.toNat) ∧ (mi M 99 k.toNat) ≤ 3) ∧ ((mi M 98 k.toNat) = 4 → 0 ≤ (mi M 99 k.toNat) ∧ (mi M 99 k.toNat) ≤ 2)) ∨ ((mi M 98 k.toNat) = 7 ∧ 1 ≤ n) ∨ ((mi M 98 k.toNat) > 7 ∧ 2 ≤ n) := by
      rcases hW with ⟨h, g0, g1, g2, g3, -⟩ | ⟨h, g, -⟩ | ⟨h, h2, g, -⟩ <;> omega
    sorry


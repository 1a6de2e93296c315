theorem ml_upO {m : AM} {o : Nat} {i : Int} {v : Int} (h : -9223372036854775808 ≤ v) (h2 : v < 9223372036854775808) : ml (sl m o i.toNat v) o = sUp (ml m o) i v := by
  funext j
  unfold sUp
  by_cases hj : j = i.toNat
  · rw [if_pos hj, hj, ml_sl_same m o i.toNat h h2]
  · rw [if_neg hj, ml_sl_ne m v (fun q => hj q.2)]
theorem PL.ex {m N : AM} (h : PL m N) : ∃ L, N = (m.1, L, m.2.2) := ⟨N.2.1, by rw [← h.1, ← h.2.1]⟩
theorem PL.rk {m N : AM} (h : PL m N) {o x p : Nat} (hr : RK m o x p) : RK N o x p := by
  obtain ⟨L, rfl⟩ := h.ex
  exact hr
theorem PL.rd {m N : AM} (h : PL m N) (o x : Nat) : rdC N o x = rdC m o x := by
  obtain ⟨L, rfl⟩ := h.ex
  rfl
theorem PL.put {m N : AM} (h : PL m N) (o k : Nat) (v : Int) : PL (si m o k v) (si N o k v) := by
  obtain ⟨L, rfl⟩ := h.ex
  exact ⟨rfl, rfl, h.2.2⟩
theorem PL.trans {m N K : AM} (h : PL m N) (h2 : PL N K) : PL m K := ⟨h2.1.trans h.1, h2.2.1.trans h.2.1, fun o j ho => (h2.2.2 o j ho).trans (h.2.2 o j ho)⟩
/-- words of a program's part are those of a code -/
def wdA (m : AM) (p : Nat) (cd : Int → Nat × Int) (k to : Int) : Prop := ∀ j, k ≤ j → j < to → mi m (p + 1) j.toNat = wdC (cd j) ∧ (cd j).1 < 17 ∧ 0 ≤ (cd j).2 ∧ (cd j).2 < 2 ^ 20
theorem PL.wd {m N : AM} (h : PL m N) {p : Nat} {cd : Int → Nat × Int} {k to : Int} (hw : wdA m p cd k to) : wdA N p cd k to := by
  obtain ⟨L, rfl⟩ := h.ex
  exact hw
def RpK (m : AM) (E : Int × (Nat → Int)) : Option Vl → AM → Prop := fun r N => (E.1 = 0 ∧ r = some (vL (E.2 0)) ∧ PL m N ∧ -1000000000 ≤ E.2 0 ∧ E.2 0 ≤ 1000000000) ∨ (E.1 ≠ 0 ∧ r = some (vL 0) ∧ PL (si m 17 9 E.1) N)
theorem ct_inputK {G : QW} {m : AM} {o x p : Nat} {wire : Int} (h : RK m o x p) (h4 : -1 ≤ wire) (h5 : wire ≤ 53) (h6 : 0 ≤ wire → wire % 10 ≤ 3) : qM G mX10_inputOf 0 0 0 [vR 17, vI wire] m (fun r m' => r = some (vI (inC m x wire).2) ∧ m' = (if (inC m x wire).1 = 0 then m else si m 17 9 (inC m x wire).1)) := by
  refine qM.mono (ct_X10_inputOf h.1 h.2.1 (by omega) (by omega) h.2.2.2.1.1 h.2.2.2.1.2 h4 h5 h6 h.2.2.2.2.2.2.2.1) (fun v m' hp => ?_)
  rw [input_spec] at hp
  exact hp
theorem ct_joinK {G : QW} {m : AM} {o x p : Nat} {w : Nat} {a b : Int} (h : RK m o x p) (hw : 7 ≤ w ∧ w ≤ 16) (ha : -1000000000 ≤ a ∧ a ≤ 1000000000) (hb : -1000000000 ≤ b ∧ b ≤ 1000000000) : qM G mX10_join 0 0 0 [vR 17, vI w, vL a, vL b] m (fun r m' => ∃ v, r = some (vL v) ∧ ((sJN w a b).1 = 0 → v = (sJN w a b).2) ∧ m' = (if (sJN w a b).1 = 0 then m else si m 17 9 (sJN w a b).1)) := by
  have hm := abs_mul ha.1 ha.2 hb.1 hb.2
  refine qM.mono (ct_X10_join h.1 h.2.1 (by omega) (by omega) (by omega) (by omega) (by omega) (by omega)) (fun v m' hp => ?_)
  obtain ⟨h1, h2⟩ := hp
  have js := join_spec m hw a b
  exact ⟨_, h1, js.2, h2.trans js.1⟩

set_option maxRecDepth 20000 in
set_option maxHeartbeats 4000000 in
theorem lp_workOut_f {G : QW} {M : AM} {to n k : Int} {Rp : Option Vl → AM → Prop} (hS : St M) (ht : -2147483648 ≤ to ∧ to < 2147483648) (hk : -2147483648 ≤ k ∧ k < 2147483648) (hf : mi M 17 9 ≠ 0) (hfin : Rp (some (vL 0)) M) : qJ G mX10_workOut { frames := 1, cells := 0, slots := 0, locals := 60 * 1 } (qF G Rp 0 0) 5 [(0, vR 17), (2, vI to), (3, vI n), (4, vI k)] [] M 0 0 := by
  refine j_iload rfl rfl ?_
  refine j_iload_n rfl rfl ?_
  refine j_icmp_ge (tgt := 164) rfl (by decide) (by omega) (by omega) (by omega) (by omega) (fun hb8_1 => ?_) (fun hb8_1 => ?_)
  · skip
    refine j_aload_n rfl rfl ?_
    refine j_getI rfl f_X10_84 rfl (hS.lt (by decide)) (hS.k (by decide) (by decide)) ?_
    have u165_1 := mi_rng M 17 9
    refine j_if_ne (tgt := 180) rfl (by decide) (by omega) (by omega) (fun hb168_1 => ?_) (fun hb168_1 => ?_)
    · skip
      refine j_lconst (v := 0) rfl (by decide) ?_
      refine j_lret rfl rfl ?_ rfl (Nat.le_refl _)
      exact hfin
    · skip
      refine j_aload_n rfl rfl ?_
      refine j_getR (q := 21) rfl f_X10_21 rfl (hS.lt (by decide)) (hS.k (by decide) (by decide)) (hS.r (by decide)) ?_
      refine j_iconst rfl ?_
      refine j_lald (n := 160) rfl (hS.lt (by decide)) (hS.k (by decide) (by decide)) (hS.n (by decide) (by decide)) (by omega) (by omega) (by decide) ?_
      have u176_1 := ml_rng M 21 (0 : Int).toNat
      refine j_goto (tgt := 181) rfl (by decide) ?_
      refine j_lret rfl rfl ?_ rfl (Nat.le_refl _)
      exact absurd hf (by omega)
  · skip
    refine j_aload_n rfl rfl ?_
    refine j_getI rfl f_X10_84 rfl (hS.lt (by decide)) (hS.k (by decide) (by decide)) ?_
    have u12_1 := mi_rng M 17 9
    refine j_if_ne (tgt := 164) rfl (by decide) (by omega) (by omega) (fun hb15_1 => ?_) (fun hb15_1 => ?_)
    · skip
      refine j_aload_n rfl rfl ?_
      refine j_getI rfl f_X10_84 rfl (hS.lt (by decide)) (hS.k (by decide) (by decide)) ?_
      have u165_2 := mi_rng M 17 9
      refine j_if_ne (tgt := 180) rfl (by decide) (by omega) (by omega) (fun hb168_2 => ?_) (fun hb168_2 => ?_)
      · skip
        refine j_lconst (v := 0) rfl (by decide) ?_
        refine j_lret rfl rfl ?_ rfl (Nat.le_refl _)
        exact hfin
      · skip
        refine j_aload_n rfl rfl ?_
        refine j_getR (q := 21) rfl f_X10_21 rfl (hS.lt (by decide)) (hS.k (by decide) (by decide)) (hS.r (by decide)) ?_
        refine j_iconst rfl ?_
        refine j_lald (n := 160) rfl (hS.lt (by decide)) (hS.k (by decide) (by decide)) (hS.n (by decide) (by decide)) (by omega) (by omega) (by decide) ?_
        have u176_2 := ml_rng M 21 (0 : Int).toNat
        refine j_goto (tgt := 181) rfl (by decide) ?_
        refine j_lret rfl rfl ?_ rfl (Nat.le_refl _)
        exact absurd hf (by omega)
    · skip
      exfalso; omega

set_option maxRecDepth 20000 in
set_option maxHeartbeats 4000000 in
theorem lp_workOut {G : QW} {m : AM} {o x p : Nat} {to : Int} {cd : Int → Nat × Int} {E : Int × (Nat → Int)} (hRK : RK m o x p) (hf0 : mi m 17 9 = 0) (ht1 : to ≤ 160) : ∀ (c : Nat) (k n : Int) (M : AM), PL m M → k + c = to → 0 ≤ k → 0 ≤ n → n + c ≤ 160 → wdA m p cd k to → sWF cd c k n → (∀ j : Nat, (j : Int) < n → -1000000000 ≤ ml M 21 j ∧ ml M 21 j ≤ 1000000000) → sEV cd (rdC m o x) c k n (ml M 21) = E → qJ G mX10_workOut { frames := 1, cells := 0, slots := 0, locals := 60 * 1 } (qF G (RpK m E) 0 0) 5 [(0, vR 17), (2, vI to), (3, vI n), (4, vI k)] [] M 0 0 := by
  intro c
  induction c with
  | zero =>
    intro k n M hs hk hk0 hn hc hwd hwf hst hE
    have hM := hs.rk hRK
    have hS := hM.1
    have hn1 : n = 1 := hwf
    have hf9 : mi M 17 9 = 0 := by rw [hs.mi]; exact hf0
    have e : (0, ml M 21) = E := hE
    subst e
    have hs0 := hst 0 (by omega)
    have done : RpK m (0, ml M 21) (some (vL (ml M 21 (0 : Int).toNat))) M := Or.inl ⟨rfl, rfl, hs, hs0.1, hs0.2⟩
    refine j_iload rfl rfl ?_
    refine j_iload_n rfl rfl ?_
    refine j_icmp_ge (tgt := 164) rfl (by decide) (by omega) (by omega) (by omega) (by omega) (fun hb8_1 => ?_) (fun hb8_1 => ?_)
    · skip
      refine j_aload_n rfl rfl ?_
      refine j_getI rfl f_X10_84 rfl (hS.lt (by decide)) (hS.k (by decide) (by decide)) ?_
      have u165_1 := mi_rng M 17 9
      refine j_if_ne (tgt := 180) rfl (by decide) (by omega) (by omega) (fun hb168_1 => ?_) (fun hb168_1 => ?_)
      · skip
        refine j_lconst (v := 0) rfl (by decide) ?_
        refine j_lret rfl rfl ?_ rfl (Nat.le_refl _)
        exfalso; omega
      · skip
        refine j_aload_n rfl rfl ?_
        refine j_getR (q := 21) rfl f_X10_21 rfl (hS.lt (by decide)) (hS.k (by decide) (by decide)) (hS.r (by decide)) ?_
        refine j_iconst rfl ?_
        refine j_lald (n := 160) rfl (hS.lt (by decide)) (hS.k (by decide) (by decide)) (hS.n (by decide) (by decide)) (by omega) (by omega) (by decide) ?_
        have u176_1 := ml_rng M 21 (0 : Int).toNat
        refine j_goto (tgt := 181) rfl (by decide) ?_
        refine j_lret rfl rfl ?_ rfl (Nat.le_refl _)
        exact done
    · skip
      exfalso; omega
  | succ c ih =>
    intro k n M hs hk hk0 hn hc hwd hwf hst hE
    have hM := hs.rk hRK
    have hS := hM.1
    have hf9 : mi M 17 9 = 0 := by rw [hs.mi]; exact hf0
    obtain ⟨w, v, hcd⟩ : ∃ w v, cd k = (w, v) := ⟨_, _, rfl⟩
    have hw1 := hwd k (Int.le_refl _) (by omega)
    rw [hcd] at hw1
    obtain ⟨hw1, hw2, hw3, hw4⟩ := hw1
    have hwn : ∀ j, k + 1 ≤ j → j < to → mi m (p + 1) j.toNat = wdC (cd j) ∧ (cd j).1 < 17 ∧ 0 ≤ (cd j).2 ∧ (cd j).2 < 2 ^ 20 := fun j h1 h2 => hwd j (by omega) h2
    rw [← hs.mi] at hw1
    have hwt : z_ishr (mi M (p + 1) k.toNat) 20 = (w : Int) := by rw [hw1]; exact wd_what hw2 hw3 hw4
    have hnb : z_iand (mi M (p + 1) k.toNat) 1048575 = v := by rw [hw1]; exact wd_number hw2 hw3 hw4
    simp only [sWF, hcd] at hwf
    simp only [sEV, hcd] at hE
    obtain ⟨-, hW⟩ := hwf
    have W0 : (w < 6 ∧ (w = 1 → 0 ≤ v ∧ v ≤ 7) ∧ (w = 2 → 0 ≤ v ∧ v ≤ 3) ∧ (w = 3 → 0 ≤ v ∧ v ≤ 2)) ∨ (w = 6 ∧ 1 ≤ n) ∨ (7 ≤ w ∧ 2 ≤ n) := by
      rcases hW with ⟨h, g0, g1, g2, g3, -⟩ | ⟨h, g, -⟩ | ⟨h, h2, g, -⟩
      · exact Or.inl ⟨h, g1, g2, g3⟩
      · exact Or.inr (Or.inl ⟨h, g⟩)
      · exact Or.inr (Or.inr ⟨h, g⟩)
    have pushed : ∀ z : Int, rdC M o x w v = (0, z) → w < 6 → -1000000 ≤ z → z ≤ 1000000 → qJ G mX10_workOut { frames := 1, cells := 0, slots := 0, locals := 60 * 1 } (qF G (RpK m E) 0 0) 5 [(0, vR 17), (2, vI to), (3, vI (n + 1)), (4, vI (k + 1))] [] (sl M 21 n.toNat z) 0 0 := by
      intro z hz hw6 hz1 hz2
      rcases hW with ⟨hw, -, -, -, -, hwf2⟩ | ⟨hw, -⟩ | ⟨hw, -⟩
      · refine ih (k + 1) (n + 1) (sl M 21 n.toNat z) (hs.push _ _) (by omega) (by omega) (by omega) (by omega) hwn hwf2 (fun j hj => ?_) ?_
        · by_cases e : j = n.toNat
          · rw [e, ml_sl_same M 21 n.toNat (by omega) (by omega)]
            omega
          · rw [ml_sl_ne M z (fun q => e q.2)]
            exact hst j (by omega)
        · rw [ml_upO (by omega) (by omega)]
          rw [← hs.rd o x] at hE
          rw [if_pos hw, hz, if_neg (fun q => q rfl), hs.rd o x] at hE
          exact hE
      · exfalso; omega
      · exfalso; omega
    have hval : w ≠ 2 → w < 6 → -1000000 ≤ FX10_valueOf M o x w v ∧ FX10_valueOf M o x w v ≤ 1000000 := by
      intro h2 h6
      have h := rdC_rng hM h6 (v := v) (fun h0 => by
        rcases hW with ⟨-, g0, -⟩ | ⟨hw, -⟩ | ⟨hw, -⟩
        · exact g0 h0
        · omega
        · omega)
      unfold rdC at h
      rw [if_neg h2] at h
      exact h
    have pushV : w ≠ 2 → w < 6 → qJ G mX10_workOut { frames := 1, cells := 0, slots := 0, locals := 60 * 1 } (qF G (RpK m E) 0 0) 5 [(0, vR 17), (2, vI to), (3, vI (n + 1)), (4, vI (k + 1))] [] (sl M 21 n.toNat (FX10_valueOf M o x w v)) 0 0 := fun h2 h6 => pushed _ (by unfold rdC; rw [if_neg h2]) h6 (hval h2 h6).1 (hval h2 h6).2
    have pushI : (inC M x (mi M (x + 2) v.toNat)).1 = 0 → w = 2 → qJ G mX10_workOut { frames := 1, cells := 0, slots := 0, locals := 60 * 1 } (qF G (RpK m E) 0 0) 5 [(0, vR 17), (2, vI to), (3, vI (n + 1)), (4, vI (k + 1))] [] (sl M 21 n.toNat (inC M x (mi M (x + 2) v.toNat)).2) 0 0 := fun hz h2 => pushed _ (by unfold rdC; rw [if_pos h2]; exact Prod.ext hz rfl) (by omega) (inC_rng hM _).1 (inC_rng hM _).2.1
    have faultI : (inC M x (mi M (x + 2) v.toNat)).1 ≠ 0 → w = 2 → qJ G mX10_workOut { frames := 1, cells := 0, slots := 0, locals := 60 * 1 } (qF G (RpK m E) 0 0) 5 [(0, vR 17), (2, vI to), (3, vI (n + 1)), (4, vI (k + 1))] [] (sl (si M 17 9 (inC M x (mi M (x + 2) v.toNat)).1) 21 n.toNat (inC M x (mi M (x + 2) v.toNat)).2) 0 0 := by
      intro hz h2
      have hin := inC_rng hM (mi M (x + 2) v.toNat)
      refine lp_workOut_f (M := sl (si M 17 9 (inC M x (mi M (x + 2) v.toNat)).1) 21 n.toNat (inC M x (mi M (x + 2) v.toNat)).2) hS (by omega) (by omega) (by show mi (si M 17 9 (inC M x (mi M (x + 2) v.toNat)).1) 17 9 ≠ 0; rw [mi_si_same _ _ _ (by omega) (by omega)]; exact hz) ?_
      have hr : rdC m o x w v = inC M x (mi M (x + 2) v.toNat) := by rw [← hs.rd o x]; unfold rdC; rw [if_pos h2]
      rw [if_pos (by omega), hr, if_pos hz] at hE
      subst hE
      exact Or.inr ⟨hz, rfl, (hs.put _ _ _).push _ _⟩
    have negd : w = 6 → qJ G mX10_workOut { frames := 1, cells := 0, slots := 0, locals := 60 * 1 } (qF G (RpK m E) 0 0) 5 [(0, vR 17), (2, vI to), (3, vI n), (4, vI (k + 1))] [] (sl M 21 (n - 1).toNat (-(ml M 21 (n - 1).toNat))) 0 0 := by
      intro h6
      rcases hW with ⟨hw, -⟩ | ⟨hw, hn1, hwf2⟩ | ⟨hw, -⟩
      · exfalso; omega
      · have hy := hst (n - 1).toNat (by omega)
        refine ih (k + 1) n _ (hs.push _ _) (by omega) (by omega) (by omega) (by omega) hwn hwf2 (fun j hj => ?_) ?_
        · by_cases e : j = (n - 1).toNat
          · rw [e, ml_sl_same M 21 (n - 1).toNat (by omega) (by omega)]
            omega
          · rw [ml_sl_ne M _ (fun q => e q.2)]
            exact hst j (by omega)
        · rw [ml_upO (by omega) (by omega)]
          rw [if_neg (by omega), if_pos hw] at hE
          exact hE
      · exfalso; omega
    have e1 : (n + (-1)) - 1 = n - 2 := by omega
    have e2 : n + (-1) = n - 1 := by omega
    have joined : ∀ {jv : Int}, (sJN w (ml M 21 ((n + (-1)) - 1).toNat) (ml M 21 (n + (-1)).toNat)).1 = 0 → jv = (sJN w (ml M 21 ((n + (-1)) - 1).toNat) (ml M 21 (n + (-1)).toNat)).2 → 7 ≤ w → qJ G mX10_workOut { frames := 1, cells := 0, slots := 0, locals := 60 * 1 } (qF G (RpK m E) 0 0) 5 [(0, vR 17), (2, vI to), (3, vI (n + (-1))), (4, vI (k + 1))] [] (sl M 21 ((n + (-1)) - 1).toNat jv) 0 0 := by
      intro jv hz hj h7
      rcases hW with ⟨hw, -⟩ | ⟨hw, -⟩ | ⟨hw, hw2, hn2, hwf2⟩
      · exfalso; omega
      · exfalso; omega
      · rw [e1, e2] at hz hj
        rw [e1, e2]
        have xr := hst (n - 2).toNat (by omega)
        have yr := hst (n - 1).toNat (by omega)
        have b1 : -1000000000 ≤ jv ∧ jv ≤ 1000000000 := by
          by_cases hd : (w = 15 ∨ w = 16) ∧ ml M 21 (n - 1).toNat = 0
          · exfalso
            rw [hd.2] at hz
            unfold sJN at hz
            rw [if_neg (by omega), if_neg (by omega), if_neg (by omega), if_neg (by omega), if_neg (by omega), if_pos hd.1, if_pos rfl] at hz
            exact absurd (show (3 : Int) = 0 from hz) (by decide)
          · have hf := sJN_f hw hw2 (fun q1 q2 => hd ⟨q1, q2⟩) xr.1 xr.2 (y := ml M 21 (n - 1).toNat)
            rw [hz] at hf
            rw [hj]
            split at hf
            · exact absurd hf (by decide)
            · omega
        refine ih (k + 1) (n - 1) _ (hs.push _ _) (by omega) (by omega) (by omega) (by omega) hwn hwf2 (fun j hj => ?_) ?_
        · by_cases e : j = (n - 2).toNat
          · rw [e, ml_sl_same M 21 _ (by omega) (by omega)]
            exact b1
          · rw [ml_sl_ne M _ (fun q => e q.2)]
            exact hst j (by omega)
        · rw [ml_upO (by omega) (by omega)]
          rw [if_neg (by omega), if_neg (by omega), hz, if_neg (fun q => q rfl), ← hj] at hE
          exact hE
    have faultJ : ∀ jv : Int, (sJN w (ml M 21 ((n + (-1)) - 1).toNat) (ml M 21 (n + (-1)).toNat)).1 ≠ 0 → 7 ≤ w → qJ G mX10_workOut { frames := 1, cells := 0, slots := 0, locals := 60 * 1 } (qF G (RpK m E) 0 0) 5 [(0, vR 17), (2, vI to), (3, vI (n + (-1))), (4, vI (k + 1))] [] (sl (si M 17 9 (sJN w (ml M 21 ((n + (-1)) - 1).toNat) (ml M 21 (n + (-1)).toNat)).1) 21 ((n + (-1)) - 1).toNat jv) 0 0 := by
      intro jv hz h7
      have hr := sJN_r (w := w) (x := (ml M 21 ((n + (-1)) - 1).toNat)) (y := (ml M 21 (n + (-1)).toNat))
      refine lp_workOut_f (M := sl (si M 17 9 (sJN w (ml M 21 ((n + (-1)) - 1).toNat) (ml M 21 (n + (-1)).toNat)).1) 21 ((n + (-1)) - 1).toNat jv) hS (by omega) (by omega) (by show mi (si M 17 9 (sJN w (ml M 21 ((n + (-1)) - 1).toNat) (ml M 21 (n + (-1)).toNat)).1) 17 9 ≠ 0; rw [mi_si_same _ _ _ (by omega) (by omega)]; exact hz) ?_
      rw [e1, e2] at *
      rw [if_neg (by omega), if_neg (by omega), if_pos hz] at hE
      subst hE
      exact Or.inr ⟨hz, rfl, (hs.put _ _ _).push _ _⟩
    clear hE ih hwd hwn hW
    refine j_iload rfl rfl ?_
    refine j_iload_n rfl rfl ?_
    refine j_icmp_ge (tgt := 164) rfl (by decide) (by omega) (by omega) (by omega) (by omega) (fun hb8_1 => ?_) (fun hb8_1 => ?_)
    · skip
      exfalso; omega
    · skip
      refine j_aload_n rfl rfl ?_
      refine j_getI rfl f_X10_84 rfl (hS.lt (by decide)) (hS.k (by decide) (by decide)) ?_
      have u12_1 := mi_rng M 17 9
      refine j_if_ne (tgt := 164) rfl (by decide) (by omega) (by omega) (fun hb15_1 => ?_) (fun hb15_1 => ?_)
      · skip
        exfalso; omega
      · skip
        refine j_aload_n rfl rfl ?_
        refine j_getR (q := p) rfl f_X10_67 rfl (hS.lt (by decide)) (hS.k (by decide) (by decide)) hM.2.2.2.2.1.2 ?_
        refine j_getR (q := (p + 1)) rfl f_X10_137 rfl hM.2.2.2.2.1.1.1 hM.2.2.2.2.1.1.2.1 (hM.2.2.2.2.1.1.q 0 1 13 160 (by decide)).1 ?_
        refine j_iload rfl rfl ?_
        refine j_iald (n := 160) rfl (hM.2.2.2.2.1.1.q 0 1 13 160 (by decide)).2.1 (hM.2.2.2.2.1.1.q 0 1 13 160 (by decide)).2.2.1 (hM.2.2.2.2.1.1.q 0 1 13 160 (by decide)).2.2.2 (by omega) (by omega) (by decide) ?_
        have u27_1 := mi_rng M (p + 1) k.toNat
        refine j_bipush rfl (by decide) ?_
        refine j_ishr rfl ?_
        have z30_1 := z_ishr_rng (mi M (p + 1) k.toNat) 20
        rw [hwt]
        refine j_istore rfl (by decide) ?_
        refine j_aload_n rfl rfl ?_
        refine j_getR (q := p) rfl f_X10_67 rfl (hS.lt (by decide)) (hS.k (by decide) (by decide)) hM.2.2.2.2.1.2 ?_
        refine j_getR (q := (p + 1)) rfl f_X10_137 rfl hM.2.2.2.2.1.1.1 hM.2.2.2.2.1.1.2.1 (hM.2.2.2.2.1.1.q 0 1 13 160 (by decide)).1 ?_
        refine j_iload rfl rfl ?_
        refine j_iald (n := 160) rfl (hM.2.2.2.2.1.1.q 0 1 13 160 (by decide)).2.1 (hM.2.2.2.2.1.1.q 0 1 13 160 (by decide)).2.2.1 (hM.2.2.2.2.1.1.q 0 1 13 160 (by decide)).2.2.2 (by omega) (by omega) (by decide) ?_
        have u42_1 := mi_rng M (p + 1) k.toNat
        refine j_ldc (v := 1048575) rfl k_X10_140 ?_
        refine j_iand rfl ?_
        have z45_1 := z_iand_rng (mi M (p + 1) k.toNat) 1048575
        rw [hnb]
        refine j_istore rfl (by decide) ?_
        refine j_iload rfl rfl ?_
        refine j_bipush rfl (by decide) ?_
        refine j_icmp_ge (tgt := 100) rfl (by decide) (by omega) (by omega) (by omega) (by omega) (fun hb52_1 => ?_) (fun hb52_1 => ?_)
        · skip
          refine j_iload rfl rfl ?_
          refine j_bipush rfl (by decide) ?_
          refine j_icmp_ne (tgt := 127) rfl (by decide) (by omega) (by omega) (by omega) (by omega) (fun hb104_1 => ?_) (fun hb104_1 => ?_)
          · skip
            refine j_iinc rfl rfl (by decide) ?_
            refine j_aload_n rfl rfl ?_
            refine j_getR (q := 21) rfl f_X10_21 rfl (hS.lt (by decide)) (hS.k (by decide) (by decide)) (hS.r (by decide)) ?_
            refine j_iload_n rfl rfl ?_
            refine j_iconst rfl ?_
            refine j_isub rfl ?_
            refine j_aload_n rfl rfl ?_
            refine j_iload rfl rfl ?_
            refine j_aload_n rfl rfl ?_
            refine j_getR (q := 21) rfl f_X10_21 rfl (hS.lt (by decide)) (hS.k (by decide) (by decide)) (hS.r (by decide)) ?_
            have hxa := hst ((n + (-1)) - 1).toNat (by omega)
            refine j_iload_n rfl rfl ?_
            refine j_iconst rfl ?_
            refine j_isub rfl ?_
            refine j_lald (n := 160) rfl (hS.lt (by decide)) (hS.k (by decide) (by decide)) (hS.n (by decide) (by decide)) (by omega) (by omega) (by decide) ?_
            have u147_1 := ml_rng M 21 ((n + (-1)) - 1).toNat
            refine j_aload_n rfl rfl ?_
            refine j_getR (q := 21) rfl f_X10_21 rfl (hS.lt (by decide)) (hS.k (by decide) (by decide)) (hS.r (by decide)) ?_
            refine j_iload_n rfl rfl ?_
            have hya := hst (n + (-1)).toNat (by omega)
            refine j_lald (n := 160) rfl (hS.lt (by decide)) (hS.k (by decide) (by decide)) (hS.n (by decide) (by decide)) (by omega) (by omega) (by decide) ?_
            have u153_1 := ml_rng M 21 (n + (-1)).toNat
            refine j_callV (ci := 10) rfl okX10_join c_X10_150 (ct_joinK hM (by omega) (by omega) (by omega)) rfl rfl (hS.lt (by decide)) (hS.k (by decide) (by decide)) (by decide) rfl (Nat.le_of_ble_eq_true rfl) (by decide) (by decide) ?_
            rintro vq mq ⟨jv, e1, ej, e2⟩
            rw [e1, e2]
            clear e1 e2
            simp only [Option.toList_some, Option.toList_none, List.cons_append, List.nil_append]
            by_cases hz : (sJN w (ml M 21 ((n + (-1)) - 1).toNat) (ml M 21 (n + (-1)).toNat)).1 = 0
            · rw [if_pos hz]
              refine j_last (n := 160) rfl (hS.lt (by decide)) (hS.k (by decide) (by decide)) (hS.n (by decide) (by decide)) (by omega) (by omega) (by first | decide | omega) ?_
              refine j_iinc rfl rfl (by decide) ?_
              refine j_goto (tgt := 5) rfl (by decide) ?_
              refine j_loc (ls' := [(0, vR 17), (2, vI to), (3, vI (n + (-1))), (4, vI (k + 1))]) rfl ?_
              exact joined hz (ej hz) (by omega)
            · rw [if_neg hz]
              refine j_last (n := 160) rfl (hS.lt (by decide)) (hS.k (by decide) (by decide)) (hS.n (by decide) (by decide)) (by omega) (by omega) (by first | decide | omega) ?_
              refine j_iinc rfl rfl (by decide) ?_
              refine j_goto (tgt := 5) rfl (by decide) ?_
              refine j_loc (ls' := [(0, vR 17), (2, vI to), (3, vI (n + (-1))), (4, vI (k + 1))]) rfl ?_
              exact faultJ _ hz (by omega)
          · skip
            refine j_aload_n rfl rfl ?_
            refine j_getR (q := 21) rfl f_X10_21 rfl (hS.lt (by decide)) (hS.k (by decide) (by decide)) (hS.r (by decide)) ?_
            refine j_iload_n rfl rfl ?_
            refine j_iconst rfl ?_
            refine j_isub rfl ?_
            refine j_aload_n rfl rfl ?_
            refine j_getR (q := 21) rfl f_X10_21 rfl (hS.lt (by decide)) (hS.k (by decide) (by decide)) (hS.r (by decide)) ?_
            refine j_iload_n rfl rfl ?_
            refine j_iconst rfl ?_
            refine j_isub rfl ?_
            have hxa := hst (n - 1).toNat (by omega)
            refine j_lald (n := 160) rfl (hS.lt (by decide)) (hS.k (by decide) (by decide)) (hS.n (by decide) (by decide)) (by omega) (by omega) (by decide) ?_
            have u121_1 := ml_rng M 21 (n - 1).toNat
            refine j_lneg rfl ?_
            refine j_last (n := 160) rfl (hS.lt (by decide)) (hS.k (by decide) (by decide)) (hS.n (by decide) (by decide)) (by omega) (by omega) (by first | decide | omega) ?_
            refine j_goto (tgt := 158) rfl (by decide) ?_
            refine j_iinc rfl rfl (by decide) ?_
            refine j_goto (tgt := 5) rfl (by decide) ?_
            refine j_loc (ls' := [(0, vR 17), (2, vI to), (3, vI n), (4, vI (k + 1))]) rfl ?_
            exact negd (by omega)
        · skip
          refine j_aload_n rfl rfl ?_
          refine j_getR (q := 21) rfl f_X10_21 rfl (hS.lt (by decide)) (hS.k (by decide) (by decide)) (hS.r (by decide)) ?_
          refine j_iload_n rfl rfl ?_
          refine j_iload rfl rfl ?_
          refine j_iconst rfl ?_
          refine j_icmp_ne (tgt := 84) rfl (by decide) (by omega) (by omega) (by omega) (by omega) (fun hb63_1 => ?_) (fun hb63_1 => ?_)
          · skip
            refine j_aload_n rfl rfl ?_
            refine j_iload rfl rfl ?_
            refine j_iload rfl rfl ?_
            refine j_callV (ci := 10) rfl okX10_valueOf c_X10_147 (ct_X10_valueOf hM.1 hM.2.1 (by omega) (by omega) (by omega) (by omega) hM.2.2.1.1 hM.2.2.1.2 hM.2.2.2.1.1 hM.2.2.2.1.2 hM.2.2.2.2.2.1 (by omega) (by omega) (by omega)) rfl rfl (hS.lt (by decide)) (hS.k (by decide) (by decide)) (by decide) rfl (Nat.le_of_ble_eq_true rfl) (by decide) (by decide) ?_
            rintro vq mq ⟨e1, e2⟩
            rw [e1, e2]
            clear e1 e2
            simp only [Option.toList_some, Option.toList_none, List.cons_append, List.nil_append]
            have hvr := hval (by omega) (by omega)
            refine j_i2l rfl (by omega) (by omega) ?_
            refine j_last (n := 160) rfl (hS.lt (by decide)) (hS.k (by decide) (by decide)) (hS.n (by decide) (by decide)) (by omega) (by omega) (by first | decide | omega) ?_
            refine j_iinc rfl rfl (by decide) ?_
            refine j_goto (tgt := 158) rfl (by decide) ?_
            refine j_iinc rfl rfl (by decide) ?_
            refine j_goto (tgt := 5) rfl (by decide) ?_
            refine j_loc (ls' := [(0, vR 17), (2, vI to), (3, vI (n + 1)), (4, vI (k + 1))]) rfl ?_
            exact pushV (by omega) (by omega)
          · skip
            refine j_aload_n rfl rfl ?_
            refine j_aload_n rfl rfl ?_
            refine j_getR (q := x) rfl f_X10_57 rfl (hS.lt (by decide)) (hS.k (by decide) (by decide)) hM.2.2.2.1.2 ?_
            refine j_getR (q := (x + 2)) rfl f_X10_141 rfl hM.2.2.2.1.1.1 hM.2.2.2.1.1.2.1 (hM.2.2.2.1.1.q 3 2 13 4 (by decide)).1 ?_
            have hwi0 := hM.2.2.2.2.2.2.1 v.toNat
            refine j_iload rfl rfl ?_
            refine j_iald (n := 4) rfl (hM.2.2.2.1.1.q 3 2 13 4 (by decide)).2.1 (hM.2.2.2.1.1.q 3 2 13 4 (by decide)).2.2.1 (hM.2.2.2.1.1.q 3 2 13 4 (by decide)).2.2.2 (by omega) (by omega) (by decide) ?_
            have u76_1 := mi_rng M (x + 2) v.toNat
            refine j_callV (ci := 10) rfl okX10_inputOf c_X10_144 (ct_inputK hM (by omega) (by omega) (by omega)) rfl rfl (hS.lt (by decide)) (hS.k (by decide) (by decide)) (by decide) rfl (Nat.le_of_ble_eq_true rfl) (by decide) (by decide) ?_
            rintro vq mq ⟨e1, e2⟩
            rw [e1, e2]
            clear e1 e2
            simp only [Option.toList_some, Option.toList_none, List.cons_append, List.nil_append]
            have hin := inC_rng hM (mi M (x + 2) v.toNat)
            by_cases hz : (inC M x (mi M (x + 2) v.toNat)).1 = 0
            · rw [if_pos hz]
              refine j_i2l rfl (by omega) (by omega) ?_
              refine j_goto (tgt := 93) rfl (by decide) ?_
              refine j_last (n := 160) rfl (hS.lt (by decide)) (hS.k (by decide) (by decide)) (hS.n (by decide) (by decide)) (by omega) (by omega) (by first | decide | omega) ?_
              refine j_iinc rfl rfl (by decide) ?_
              refine j_goto (tgt := 158) rfl (by decide) ?_
              refine j_iinc rfl rfl (by decide) ?_
              refine j_goto (tgt := 5) rfl (by decide) ?_
              refine j_loc (ls' := [(0, vR 17), (2, vI to), (3, vI (n + 1)), (4, vI (k + 1))]) rfl ?_
              exact pushI hz (by omega)
            · rw [if_neg hz]
              refine j_i2l rfl (by omega) (by omega) ?_
              refine j_goto (tgt := 93) rfl (by decide) ?_
              refine j_last (n := 160) rfl (hS.lt (by decide)) (hS.k (by decide) (by decide)) (hS.n (by decide) (by decide)) (by omega) (by omega) (by first | decide | omega) ?_
              refine j_iinc rfl rfl (by decide) ?_
              refine j_goto (tgt := 158) rfl (by decide) ?_
              refine j_iinc rfl rfl (by decide) ?_
              refine j_goto (tgt := 5) rfl (by decide) ?_
              refine j_loc (ls' := [(0, vR 17), (2, vI to), (3, vI (n + 1)), (4, vI (k + 1))]) rfl ?_
              exact faultI hz (by omega)

set_option maxRecDepth 20000 in
set_option maxHeartbeats 4000000 in
/-- what the class's workOut() does with a part of a program -/
theorem ct_workK {G : QW} {m : AM} {o x p : Nat} {fr to : Int} {cd : Int → Nat × Int} (hRK : RK m o x p) (hf0 : mi m 17 9 = 0) (hr0 : 0 ≤ fr) (hft : fr ≤ to) (ht1 : to ≤ 160) (hwd : wdA m p cd fr to) (hwf : sWF cd (to - fr).toNat fr 0) : qM G mX10_workOut 1 0 0 [vR 17, vI fr, vI to] m (RpK m (sEV cd (rdC m o x) (to - fr).toNat fr 0 (ml m 21))) := by
  refine qM.intro okX10_workOut (Nat.le_of_ble_eq_true rfl) ?_
  refine j_iconst rfl ?_
  refine j_istore_n rfl (by decide) ?_
  refine j_iload_n rfl rfl ?_
  refine j_istore rfl (by decide) ?_
  refine j_loc (ls' := [(0, vR 17), (2, vI to), (3, vI 0), (4, vI fr)]) rfl ?_
  exact lp_workOut hRK hf0 ht1 (to - fr).toNat fr 0 m (PL.rf m) (by omega) (by omega) (by omega) (by omega) hwd hwf (fun j hj => by exfalso; omega) rfl

/-- what a part of a program gives the class -/
def eK (m : AM) (o x : Nat) (cd : Int → Nat × Int) (fr to : Int) : Int × Int := eV cd (rdC m o x) (to - fr).toNat fr
/-- its fault or its number, whatever lay on the pile -/
theorem ct_workE {G : QW} {m : AM} {o x p : Nat} {fr to : Int} {cd : Int → Nat × Int} (hRK : RK m o x p) (hf0 : mi m 17 9 = 0) (hr0 : 0 ≤ fr) (hft : fr ≤ to) (ht1 : to ≤ 160) (hwd : wdA m p cd fr to) (hwf : sWF cd (to - fr).toNat fr 0) : qM G mX10_workOut 1 0 0 [vR 17, vI fr, vI to] m (fun r N => ((eK m o x cd fr to).1 = 0 ∧ r = some (vL (eK m o x cd fr to).2) ∧ PL m N ∧ -1000000000 ≤ (eK m o x cd fr to).2 ∧ (eK m o x cd fr to).2 ≤ 1000000000) ∨ ((eK m o x cd fr to).1 ≠ 0 ∧ r = some (vL 0) ∧ PL (si m 17 9 (eK m o x cd fr to).1) N)) := by
  refine qM.mono (ct_workK hRK hf0 hr0 hft ht1 hwd hwf) (fun r N h => ?_)
  have hp := sEV_pile (rd := rdC m o x) (to - fr).toNat fr 0 (ml m 21) (fun _ => 0) hwf (fun j hj => by exfalso; omega)
  unfold eK eV
  rcases h with ⟨h1, h2, h3, h4, h5⟩ | ⟨h1, h2, h3⟩
  · rw [hp.1] at h1
    rw [hp.2 (hp.1.trans h1)] at h2 h4 h5
    exact Or.inl ⟨h1, h2, h3, h4, h5⟩
  · rw [hp.1] at h1 h3
    exact Or.inr ⟨h1, h2, h3⟩


/-! the class's spans give the ends that the reference's give -/
def K4 (m : AM) : Prop := ∀ j : Nat, j < 6 → mi m 13 j = mi m 123 j ∧ mi m 14 j = mi m 124 j
/-- only the piles of spans and whether it is over differ -/
def PSp (m N : AM) : Prop := N.2.2 = m.2.2 ∧ (∀ c j : Nat, ¬ (c = 12 ∧ j = 4) → N.1 c j = m.1 c j) ∧ ∀ c j : Nat, c ≠ 15 → c ≠ 16 → N.2.1 c j = m.2.1 c j
theorem PSp.rf (m : AM) : PSp m m := ⟨rfl, fun _ _ _ => rfl, fun _ _ _ _ => rfl⟩
theorem PSp.trans {m N K : AM} (h : PSp m N) (h2 : PSp N K) : PSp m K := ⟨h2.1.trans h.1, fun c j a => (h2.2.1 c j a).trans (h.2.1 c j a), fun c j a b => (h2.2.2 c j a b).trans (h.2.2 c j a b)⟩
theorem PSp.cel {m N : AM} (h : PSp m N) {c j : Nat} (hc : ¬ (c = 12 ∧ j = 4)) : mi N c j = mi m c j := by
  show (zi (N.1 c j)).toInt = (zi (m.1 c j)).toInt
  rw [h.2.1 c j hc]
theorem PSp.st {m N : AM} (h : PSp m N) (hS : St m) : St N := by
  have er : mr N = mr m := congrArg (fun q => q.1) h.1
  have ez : mz N = mz m := congrArg (fun q => q.2.2.2) h.1
  have ek : mk N = mk m := congrArg (fun q => q.2.1) h.1
  have en : mn N = mn m := congrArg (fun q => q.2.2.1) h.1
  unfold St
  rw [er, ez, ek, en]
  exact hS
theorem PSp.ob {m N : AM} (h : PSp m N) {a c : Nat} {fs : List (Nat × Nat × Nat × Nat)} (hO : ObA m a c fs) : ObA N a c fs := by
  have er : mr N = mr m := congrArg (fun q => q.1) h.1
  have ez : mz N = mz m := congrArg (fun q => q.2.2.2) h.1
  have ek : mk N = mk m := congrArg (fun q => q.2.1) h.1
  have en : mn N = mn m := congrArg (fun q => q.2.2.1) h.1
  unfold ObA
  rw [er, ez, ek, en]
  exact hO
theorem PSp.im {m N : AM} (h : PSp m N) (hI : IM m) : IM N := hI.same (fun q hq => h.cel (fun z => (by decide : ∀ q ∈ imS, q.1 ≠ 12) q hq z.1)) (fun q hq j => h.cel (fun z => (by decide : ∀ q ∈ imA, q.1 ≠ 12) q hq z.1)) (fun j => h.cel (by omega)) (h.cel (by omega)) (fun j _ => h.cel (by omega)) (h.cel (by omega))
theorem PSp.cu {m N : AM} (h : PSp m N) : CU m N := by
  refine ⟨⟨by rw [h.1], fun c k _ => by rw [show mr N = mr m from congrArg (fun q => q.1) h.1], fun c j hc => h.cel (fun z => hc (Or.inl z.1)), fun c j hc => ?_⟩, fun c j a b => h.cel (by omega), fun c j a b => ?_, fun c j a => h.cel (by omega)⟩
  · show (zl (N.2.1 c j)).toInt = (zl (m.2.1 c j)).toInt
    rw [h.2.2 c j (fun z => hc (Or.inl z)) (fun z => hc (Or.inr (Or.inl z)))]
  · show (zl (N.2.1 c j)).toInt = (zl (m.2.1 c j)).toInt
    rw [h.2.2 c j (by omega) (by omega)]
theorem PSp.qr {m N : AM} (h : PSp m N) (hq : QR m) : QR N := by
  have q := h.cu.1
  have e : ∀ c j, c ≠ 12 → mi N c j = mi m c j := fun c j hc => h.cel (fun z => hc z.1)
  obtain ⟨a1, a2, a3, ⟨r1, r2, r3⟩, a5, a6⟩ := hq
  exact ⟨a1.ref (h.st a1.1.1.s) (h.im a1.1.1.i) (fun c j _ _ => e c j (by omega)), q.k1 a2, q.k2 a3, ⟨r1.same (fun r j _ => e _ _ (by omega)), r2.same (fun r j _ => e _ _ (by omega)), r3.same (fun r j _ => e _ _ (by omega))⟩, ⟨fun j => by rw [e _ _ (by decide)]; exact a5.1 j, fun j => by rw [e _ _ (by decide)]; exact a5.2.1 j, fun j => by rw [e _ _ (by decide)]; exact a5.2.2.1 j, by rw [e _ _ (by decide)]; exact a5.2.2.2⟩, a6.same h.1 (fun r j _ => e _ _ (by omega))⟩
theorem set_sp {m : AM} {at0 l g : Int} (h0 : mi m 12 4 = 0) (hle : l ≤ g) (hl : -9223372036854775808 ≤ l ∧ l < 9223372036854775808) (hg : -9223372036854775808 ≤ g ∧ g < 9223372036854775808) : PSp m (FX8_set m at0 l g) ∧ ((ckE l g).1 = 0 → mi (FX8_set m at0 l g) 12 4 = 1) ∧ ((ckE l g).1 ≠ 0 → mi (FX8_set m at0 l g) 12 4 = 0) ∧ ml (FX8_set m at0 l g) 15 = sUp (ml m 15) at0 l ∧ ml (FX8_set m at0 l g) 16 = sUp (ml m 16) at0 g := by
  have hp : ∀ v, PSp m (si (sl (sl m 15 at0.toNat l) 16 at0.toNat g) 12 4 v) := fun v => by
    refine ⟨rfl, fun c j hc => if_neg hc, fun c j h1 h2 => ?_⟩
    show (if c = 16 ∧ j = at0.toNat then g else if c = 15 ∧ j = at0.toNat then l else m.2.1 c j) = m.2.1 c j
    rw [if_neg (fun z => h2 z.1), if_neg (fun z => h1 z.1)]
  have h15 : ∀ v, ml (si (sl (sl m 15 at0.toNat l) 16 at0.toNat g) 12 4 v) 15 = sUp (ml m 15) at0 l := fun v => by
    show ml (sl (sl m 15 at0.toNat l) 16 at0.toNat g) 15 = _
    rw [ml_otherG (by decide), ml_upO hl.1 hl.2]
  have h16 : ∀ v, ml (si (sl (sl m 15 at0.toNat l) 16 at0.toNat g) 12 4 v) 16 = sUp (ml m 16) at0 g := fun v => by
    show ml (sl (sl m 15 at0.toNat l) 16 at0.toNat g) 16 = _
    rw [ml_upO hg.1 hg.2, ml_otherG (by decide)]
  have e1 : ∀ K : AM, mi (si K 12 4 1) 12 4 = 1 := fun K => mi_si_same _ _ _ (by decide) (by decide)
  have e0 : ∀ K : AM, mi (si K 12 4 0) 12 4 = 0 := fun K => mi_si_same _ _ _ (by decide) (by decide)
  unfold FX8_set ckE
  rw [if_neg (show ¬ mi m 12 4 ≠ 0 by omega)]
  by_cases c1 : l < -1000000000
  · rw [if_pos c1]
    refine ⟨hp _, fun _ => e1 _, fun z => absurd (if_pos (by omega)) z, h15 _, h16 _⟩
  · rw [if_neg c1]
    by_cases c2 : g ≤ 1000000000
    · rw [if_pos c2]
      refine ⟨hp _, fun z => ?_, fun _ => e0 _, h15 _, h16 _⟩
      rw [if_neg (by omega)] at z
      exact absurd (show (1 : Int) = 0 from z) (by decide)
    · rw [if_neg c2]
      refine ⟨hp _, fun _ => e1 _, fun z => absurd (if_pos (by omega)) z, h15 _, h16 _⟩
theorem minL_eq (m : AM) (a b : Int) : FJ9_min_f86c9 m a b = lsE a b := by
  unfold FJ9_min_f86c9 lsE
  (repeat' split) <;> omega
theorem maxL_eq (m : AM) (a b : Int) : FJ9_max_f86c9 m a b = grE a b := by
  unfold FJ9_max_f86c9 grE
  (repeat' split) <;> omega
theorem absL_eq (m : AM) (a : Int) : FJ9_abs_067f4 m a = abE a := by
  unfold FJ9_abs_067f4 abE
  (repeat' split) <;> omega
theorem ls_gr {a b c d e f g h : Int} (p : a ≤ e ∨ True) : lsE (lsE a b) (lsE c d) ≤ grE (grE a b) (grE c d) := by
  unfold lsE grE
  (repeat' split) <;> omega
theorem lsE_rng {a b c d x y : Int} (h1 : x ≤ a ∧ a ≤ y) (h2 : x ≤ b ∧ b ≤ y) (h3 : x ≤ c ∧ c ≤ y) (h4 : x ≤ d ∧ d ≤ y) : (x ≤ lsE (lsE a b) (lsE c d) ∧ lsE (lsE a b) (lsE c d) ≤ y) ∧ x ≤ grE (grE a b) (grE c d) ∧ grE (grE a b) (grE c d) ≤ y := by
  unfold lsE grE
  (repeat' split) <;> omega
theorem ckE_eq (l h : Int) : (ckE l h).2.1 = l ∧ (ckE l h).2.2 = h := ⟨rfl, rfl⟩
/-- what join() does to a pair of ends -/
theorem jn_sp {m : AM} {w : Nat} {at0 : Int} (hw : 7 ≤ w ∧ w ≤ 16) (h0 : mi m 12 4 = 0) (ha : -1000000000 ≤ ml m 15 at0.toNat ∧ ml m 15 at0.toNat ≤ 1000000000) (hb : -1000000000 ≤ ml m 16 at0.toNat ∧ ml m 16 at0.toNat ≤ 1000000000) (hc : -1000000000 ≤ ml m 15 (at0 + 1).toNat ∧ ml m 15 (at0 + 1).toNat ≤ 1000000000) (hd : -1000000000 ≤ ml m 16 (at0 + 1).toNat ∧ ml m 16 (at0 + 1).toNat ≤ 1000000000) (hab : ml m 15 at0.toNat ≤ ml m 16 at0.toNat) (hcd : ml m 15 (at0 + 1).toNat ≤ ml m 16 (at0 + 1).toNat) : PSp m (FX8_join m w at0) ∧ ((sJE w (ml m 15 at0.toNat) (ml m 16 at0.toNat) (ml m 15 (at0 + 1).toNat) (ml m 16 (at0 + 1).toNat)).1 = 0 → mi (FX8_join m w at0) 12 4 = 1) ∧ ((sJE w (ml m 15 at0.toNat) (ml m 16 at0.toNat) (ml m 15 (at0 + 1).toNat) (ml m 16 (at0 + 1).toNat)).1 ≠ 0 → mi (FX8_join m w at0) 12 4 = 0 ∧ ml (FX8_join m w at0) 15 = sUp (ml m 15) at0 (sJE w (ml m 15 at0.toNat) (ml m 16 at0.toNat) (ml m 15 (at0 + 1).toNat) (ml m 16 (at0 + 1).toNat)).2.1 ∧ ml (FX8_join m w at0) 16 = sUp (ml m 16) at0 (sJE w (ml m 15 at0.toNat) (ml m 16 at0.toNat) (ml m 15 (at0 + 1).toNat) (ml m 16 (at0 + 1).toNat)).2.2) := by
  generalize hA : ml m 15 at0.toNat = a at *
  generalize hB : ml m 16 at0.toNat = b at *
  generalize hC : ml m 15 (at0 + 1).toNat = c at *
  generalize hD : ml m 16 (at0 + 1).toNat = d at *
  have fin : ∀ {l g : Int}, l ≤ g → -9223372036854775808 ≤ l → g < 9223372036854775808 → PSp m (FX8_set m at0 l g) ∧ ((ckE l g).1 = 0 → mi (FX8_set m at0 l g) 12 4 = 1) ∧ ((ckE l g).1 ≠ 0 → mi (FX8_set m at0 l g) 12 4 = 0 ∧ ml (FX8_set m at0 l g) 15 = sUp (ml m 15) at0 (ckE l g).2.1 ∧ ml (FX8_set m at0 l g) 16 = sUp (ml m 16) at0 (ckE l g).2.2) := fun {l g} h1 h2 h3 => by
    obtain ⟨q1, q2, q3, q4, q5⟩ := set_sp (at0 := at0) h0 h1 ⟨h2, by omega⟩ ⟨by omega, h3⟩
    exact ⟨q1, q2, fun z => ⟨q3 z, q4, q5⟩⟩
  have hq : w = 7 ∨ w = 8 ∨ w = 9 ∨ w = 10 ∨ w = 11 ∨ w = 12 ∨ w = 13 ∨ w = 14 ∨ w = 15 ∨ w = 16 := by omega
  have small : ∀ v : Nat, v < 12 → PSp m (FX8_join m v at0) ∧ ((sJE v a b c d).1 = 0 → mi (FX8_join m v at0) 12 4 = 1) ∧ ((sJE v a b c d).1 ≠ 0 → mi (FX8_join m v at0) 12 4 = 0 ∧ ml (FX8_join m v at0) 15 = sUp (ml m 15) at0 (sJE v a b c d).2.1 ∧ ml (FX8_join m v at0) 16 = sUp (ml m 16) at0 (sJE v a b c d).2.2) := fun v hv => by
    have e1 : FX8_join m v at0 = FX8_set m at0 0 1 := by
      unfold FX8_join
      rw [if_neg (by omega), if_neg (by omega), if_neg (by omega), if_neg (by omega), if_neg (by omega)]
    have e2 : sJE v a b c d = ckE 0 1 := by
      unfold sJE
      rw [if_neg (by omega), if_neg (by omega), if_neg (by omega), if_neg (by omega), if_neg (by omega)]
    rw [e1, e2]
    exact fin (by decide) (by decide) (by decide)
  rcases hq with rfl | rfl | rfl | rfl | rfl | rfl | rfl | rfl | rfl | rfl
  · exact small 7 (by decide)
  · exact small 8 (by decide)
  · exact small 9 (by decide)
  · exact small 10 (by decide)
  · exact small 11 (by decide)
  · have e1 : FX8_join m ((12 : Nat) : Int) at0 = FX8_set m at0 (a + c) (b + d) := by
      unfold FX8_join
      rw [if_pos (by decide), hA, hB, hC, hD]
    rw [e1]
    exact fin (by omega) (by omega) (by omega)
  · have e1 : FX8_join m ((13 : Nat) : Int) at0 = FX8_set m at0 (a - d) (b - c) := by
      unfold FX8_join
      rw [if_neg (by decide), if_pos (by decide), hA, hB, hC, hD]
    rw [e1]
    exact fin (by omega) (by omega) (by omega)
  · have e1 : FX8_join m ((14 : Nat) : Int) at0 = FX8_set m at0 (lsE (lsE (a * c) (a * d)) (lsE (b * c) (b * d))) (grE (grE (a * c) (a * d)) (grE (b * c) (b * d))) := by
      unfold FX8_join FX8_setEnds
      rw [if_neg (by decide), if_neg (by decide), if_pos (by decide), hA, hB, hC, hD]
      simp only [minL_eq, maxL_eq]
    have r := lsE_rng (abs_mul ha.1 ha.2 hc.1 hc.2) (abs_mul ha.1 ha.2 hd.1 hd.2) (abs_mul hb.1 hb.2 hc.1 hc.2) (abs_mul hb.1 hb.2 hd.1 hd.2)
    rw [e1]
    exact fin (ls_gr (e := 0) (f := 0) (g := 0) (h := 0) (Or.inr trivial)) (by omega) (by omega)
  · have e1 : FX8_join m ((15 : Nat) : Int) at0 = if c ≤ 0 ∧ d ≥ 0 then si m 12 4 1 else FX8_set m at0 (lsE (lsE (a.tdiv c) (a.tdiv d)) (lsE (b.tdiv c) (b.tdiv d))) (grE (grE (a.tdiv c) (a.tdiv d)) (grE (b.tdiv c) (b.tdiv d))) := by
      unfold FX8_join FX8_divide FX8_setEnds
      rw [if_neg (by decide), if_neg (by decide), if_neg (by decide), if_pos (by decide), hA, hB, hC, hD]
      simp only [minL_eq, maxL_eq]
      by_cases c1 : c > 0
      · rw [if_pos c1, if_neg (show ¬ (c ≤ 0 ∧ d ≥ 0) by omega)]
        first | rfl | (rw [if_neg (by decide)]) | (rw [if_pos (by decide)]) | simp
      · rw [if_neg c1]
        by_cases d1 : d < 0
        · rw [if_pos d1, if_neg (show ¬ (c ≤ 0 ∧ d ≥ 0) by omega)]
          first | rfl | (rw [if_neg (by decide)]) | (rw [if_pos (by decide)]) | simp
        · rw [if_neg d1, if_pos (show c ≤ 0 ∧ d ≥ 0 by omega)]
    have e2 : sJE 15 a b c d = if c ≤ 0 ∧ d ≥ 0 then (0, 0, 0) else ckE (lsE (lsE (a.tdiv c) (a.tdiv d)) (lsE (b.tdiv c) (b.tdiv d))) (grE (grE (a.tdiv c) (a.tdiv d)) (grE (b.tdiv c) (b.tdiv d))) := rfl
    have r := lsE_rng (abs_tdiv (y := c) ha.1 ha.2) (abs_tdiv (y := d) ha.1 ha.2) (abs_tdiv (y := c) hb.1 hb.2) (abs_tdiv (y := d) hb.1 hb.2)
    rw [e1, e2]
    by_cases z : c ≤ 0 ∧ d ≥ 0
    · rw [if_pos z, if_pos z]
      exact ⟨⟨rfl, fun c j hc => if_neg hc, fun _ _ _ _ => rfl⟩, fun _ => mi_si_same _ _ _ (by decide) (by decide), fun q => absurd rfl q⟩
    · rw [if_neg z, if_neg z]
      exact fin (ls_gr (e := 0) (f := 0) (g := 0) (h := 0) (Or.inr trivial)) (by omega) (by omega)
  · have e1 : FX8_join m ((16 : Nat) : Int) at0 = if c ≤ 0 ∧ d ≥ 0 then si m 12 4 1 else FX8_set m at0 (-(grE (abE c) (abE d) - 1)) (grE (abE c) (abE d) - 1) := by
      unfold FX8_join FX8_divide
      rw [if_neg (by decide), if_neg (by decide), if_neg (by decide), if_neg (by decide), if_pos (by decide), hC, hD]
      simp only [maxL_eq, absL_eq]
      by_cases c1 : c > 0
      · rw [if_pos c1, if_neg (show ¬ (c ≤ 0 ∧ d ≥ 0) by omega)]
        first | rfl | (rw [if_neg (by decide)]) | (rw [if_pos (by decide)]) | simp
      · rw [if_neg c1]
        by_cases d1 : d < 0
        · rw [if_pos d1, if_neg (show ¬ (c ≤ 0 ∧ d ≥ 0) by omega)]
          first | rfl | (rw [if_neg (by decide)]) | (rw [if_pos (by decide)]) | simp
        · rw [if_neg d1, if_pos (show c ≤ 0 ∧ d ≥ 0 by omega)]
    have e2 : sJE 16 a b c d = if c ≤ 0 ∧ d ≥ 0 then (0, 0, 0) else ckE (-(grE (abE c) (abE d) - 1)) (grE (abE c) (abE d) - 1) := rfl
    rw [e1, e2]
    by_cases z : c ≤ 0 ∧ d ≥ 0
    · rw [if_pos z, if_pos z]
      exact ⟨⟨rfl, fun c j hc => if_neg hc, fun _ _ _ _ => rfl⟩, fun _ => mi_si_same _ _ _ (by decide) (by decide), fun q => absurd rfl q⟩
    · rw [if_neg z, if_neg z]
      have r : 1 ≤ grE (abE c) (abE d) ∧ grE (abE c) (abE d) ≤ 1000000000 := by
        unfold grE abE
        (repeat' split) <;> omega
      exact fin (by omega) (by omega) (by omega)
/-- ends by words that are the same -/
theorem sEE_cg {cd cd' : Int → Nat × Int} {rd : Nat → Int → Int × Int} {d : Int} : ∀ (c : Nat) (k n : Int) (f g : Nat → Int), (∀ j, k ≤ j → j < k + c → cd' (j + d) = cd j) → sEE cd' rd c (k + d) n f g = sEE cd rd c k n f g := by
  intro c
  induction c with
  | zero => intro k n f g _; rfl
  | succ c ih =>
    intro k n f g hc
    have e := hc k (Int.le_refl _) (by omega)
    have hc' : ∀ j, k + 1 ≤ j → j < k + 1 + c → cd' (j + d) = cd j := fun j h1 h2 => hc j (by omega) (by omega)
    have ek : k + d + 1 = (k + 1) + d := by omega
    unfold sEE
    rw [e, ek, ih _ _ _ _ hc', ih _ _ _ _ hc', ih _ _ _ _ hc']

/-! the tape -/
def TP (A B : AM) : Prop := mi A 1 1 = mi B 86 16 ∧ ∀ j : Nat, (j : Int) < mi A 1 1 → mi B 100 j = if mi A 2 j < 128 then mi A 2 j else mi A 2 j - 256
theorem i2b2_rng (x : Int) : -128 ≤ z_i2b (z_i2b x) ∧ z_i2b (z_i2b x) ≤ 127 := by
  have a := and255 x
  rw [i2b_tw]
  split <;> omega
theorem TP.list (v : Int) : ∀ (x : Nat) (k : Int) {A B : AM}, TP A B → 0 ≤ mi A 1 1 → mi A 1 1 + x ≤ 160 → TP (fdC v x k A) (fdL v x k B) := by
  intro x
  induction x with
  | zero => intro k A B h _ _; exact h
  | succ x ih =>
    intro k A B h h0 h1
    have a := and255 (z_ishr v (8 * k))
    have r := i2b2_rng (z_ishr v (8 * k))
    have eA := app_e (N := A) (b := z_iand (z_ishr v (8 * k)) 255) (by omega)
    have e1 : mi (FX6_append A (z_iand (z_ishr v (8 * k)) 255)) 1 1 = mi A 1 1 + 1 := by rw [eA]; exact mi_si_same _ _ _ (by omega) (by omega)
    refine ih (k + 1) ⟨?_, fun j hj => ?_⟩ (by rw [e1]; omega) (by rw [e1]; omega)
    · rw [e1, mi_si_same _ _ _ (by have := h.1; omega) (by have := h.1; omega), h.1]
    · rw [e1] at hj
      have b1 : mi (si (si B 100 (mi B 86 16).toNat (z_i2b (z_i2b (z_ishr v (8 * k))))) 86 16 (mi B 86 16 + 1)) 100 j = mi (si B 100 (mi B 86 16).toNat (z_i2b (z_i2b (z_ishr v (8 * k))))) 100 j := mi_si_ne _ _ (by omega)
      have a1 : mi (FX6_append A (z_iand (z_ishr v (8 * k)) 255)) 2 j = mi (si A 2 (mi A 1 1).toNat (z_iand (z_ishr v (8 * k)) 255)) 2 j := by rw [eA]; exact mi_si_ne _ _ (by omega)
      rw [b1, a1, ← h.1]
      by_cases z : j = (mi A 1 1).toNat
      · rw [z, mi_si_same _ _ _ (by omega) (by omega), mi_si_same _ _ _ (by omega) (by omega), i2b_tw]
      · rw [mi_si_ne _ _ (by omega), mi_si_ne _ _ (by omega)]
        exact h.2 j (by omega)
theorem fdL_k (v : Int) : ∀ (x : Nat) (k : Int) (N : AM), IM N → mi N 86 16 + x ≤ 160 → IM (fdL v x k N) ∧ (fdL v x k N).2 = N.2 ∧ mi (fdL v x k N) 86 16 = mi N 86 16 + x ∧ ∀ c j, ¬ (c = 86 ∧ j = 16) → c ≠ 100 → mi (fdL v x k N) c j = mi N c j := by
  intro x
  induction x with
  | zero => intro k N h _; exact ⟨h, rfl, by show mi N 86 16 = mi N 86 16 + ((0 : Nat) : Int); omega, fun _ _ _ _ => rfl⟩
  | succ x ih =>
    intro k N h h1
    have h0 := h.s 86 16 0 160 (by decide)
    have r := i2b2_rng (z_ishr v (8 * k))
    have a : IM (si N 100 (mi N 86 16).toNat (z_i2b (z_i2b (z_ishr v (8 * k))))) := h.cell (-128) 127 (fun q hq e _ => by revert q; decide) (by decide) r (by omega) (by decide) (by decide) (by decide) (by decide)
    have b : IM (si (si N 100 (mi N 86 16).toNat (z_i2b (z_i2b (z_ishr v (8 * k))))) 86 16 (mi N 86 16 + 1)) := a.scal 0 160 (by decide) (by decide) (by omega) (by omega) (by decide) (by decide) (by decide) (by decide)
    have e1 : mi (si (si N 100 (mi N 86 16).toNat (z_i2b (z_i2b (z_ishr v (8 * k))))) 86 16 (mi N 86 16 + 1)) 86 16 = mi N 86 16 + 1 := mi_si_same _ _ _ (by omega) (by omega)
    obtain ⟨r1, r2, r3, r4⟩ := ih (k + 1) _ b (by rw [e1]; omega)
    exact ⟨r1, r2, r3.trans (by rw [e1]; omega), fun c j q1 q2 => (r4 c j q1 q2).trans (by rw [mi_si_ne _ _ q1, mi_si_ne _ _ (fun q => q2 q.1)])⟩
theorem key_feed {m : AM} (h : Inv m) (n v : Int) : KeyP (fedC m n v) (fun N => feeR N n v) := by
  have e : mi m 1 1 = mi m 86 16 := h.k5.1
  have h0 := h.i.s 1 1 0 160 (by decide)
  by_cases c : 1 ≤ n ∧ n ≤ 4
  · by_cases c2 : mi m 1 1 + n > 160
    · refine keyP_no h (v := -3) ?_ ?_
      · unfold fedC
        rw [if_pos c, if_pos c2]
      · show feeR m n v = _
        unfold feeR
        rw [if_pos c, if_pos (by omega)]
    · have f1 : fedC m n v = (mi (fdC v n.toNat 0 m) 1 1, fdC v n.toNat 0 m) := by
        unfold fedC
        rw [if_pos c, if_neg c2]
      have f2 : ∀ N, mi N 86 16 = mi m 86 16 → feeR N n v = (mi (fdL v n.toNat 0 N) 86 16, fdL v n.toNat 0 N) := fun N eN => by
        unfold feeR
        rw [if_pos c, if_neg (by omega)]
      obtain ⟨a1, a2, a3, a4, a5, a6⟩ := fdC_k v n.toNat 0 m h.s h.i (by omega)
      have t0 : TP m (fdC v n.toNat 0 m) := ⟨by rw [a4 86 16 (by decide) (by decide)]; exact e, fun j hj => by rw [a4 100 j (by decide) (by decide)]; exact h.k5.2 j (by omega)⟩
      have T := TP.list v n.toNat 0 t0 (by omega) (by omega)
      obtain ⟨b1, b2, b3, b4⟩ := fdL_k v n.toNat 0 (fdC v n.toNat 0 m) a2 (by rw [a4 86 16 (by decide) (by decide)]; omega)
      rw [f1]
      unfold KeyP
      show St (fdC v n.toNat 0 m) ∧ IM (fdC v n.toNat 0 m) ∧ mi (fdC v n.toNat 0 m) 1 1 = (feeR (fdC v n.toNat 0 m) n v).1 ∧ Inv (feeR (fdC v n.toNat 0 m) n v).2
      rw [f2 _ (a4 86 16 (by decide) (by decide))]
      refine ⟨a1, a2, T.1, ?_⟩
      show Inv (fdL v n.toNat 0 (fdC v n.toNat 0 m))
      have w : ∀ o j, ¬ (o = 1 ∧ j = 1) → o ≠ 2 → ¬ (o = 86 ∧ j = 16) → o ≠ 100 → mi (fdL v n.toNat 0 (fdC v n.toNat 0 m)) o j = mi m o j := fun o j q1 q2 q3 q4 => (b4 o j q3 q4).trans (by
        by_cases z : o = 1
        · rw [z]; exact a5 j (fun y => q1 ⟨z, y⟩)
        · exact a4 o j z q2)
      have P3 : (fdL v n.toNat 0 (fdC v n.toNat 0 m)).2 = m.2 := b2.trans a6
      have k5 : K5 (fdL v n.toNat 0 (fdC v n.toNat 0 m)) := by
        refine ⟨by rw [b4 1 1 (by omega) (by omega)]; exact T.1, fun j hj => ?_⟩
        rw [b4 2 j (by omega) (by omega)]
        exact T.2 j (by rw [T.1]; exact hj)
      generalize fdL v n.toNat 0 (fdC v n.toNat 0 m) = N at b1 P3 w k5
      have P4 : N.2.2 = m.2.2 := congrArg (fun q => q.2) P3
      have eml : ∀ c j, ml N c j = ml m c j := fun c j => congrArg (fun q : (Nat → Nat → Int) × _ => (zl (q.1 c j)).toInt) P3
      have v : QV m N := QV.mk0 P4 (fun c j hc => w c j (fun z => hc (by unfold NV; omega)) (fun z => hc (by unfold NV; omega)) (fun z => hc (by unfold NV; omega)) (fun z => hc (by unfold NV; omega)))
      refine h.qv v (h.1.1.fr (v.st h.s) b1 (fun c j hc => ?_)) (fun c j hc => w c j (by omega) (by omega) (by omega) (by omega)) (h.k4.fr (fun c j hc => w c j (by omega) (by omega) (by omega) (by omega))) k5 (h.k6.fr (fun c j hc => w c j (by omega) (by omega) (by omega) (by omega))) (h.k7.fr (fun c j hc => w c j (by omega) (by omega) (by omega) (by omega)) (fun c j _ => eml c j)) (h.k8.fr (fun c j hc => w c j (by omega) (by omega) (by omega) (by omega))) (h.k9.fr (fun c j hc => w c j (by omega) (by omega) (by omega) (by omega))) (h.ka.fr (fun c j hc => w c j (by omega) (by omega) (by omega) (by omega)))
      rcases hc with q | q
      · have := (by decide : ∀ c ∈ riL, 88 ≤ c ∧ c ≤ 114 ∧ c ≠ 100) c q
        exact w c j (by omega) (by omega) (by omega) (by omega)
      · exact w c j (by omega) (by omega) (by omega) (by omega)
  · refine keyP_no h (v := -1) ?_ ?_
    · unfold fedC
      rw [if_neg c]
    · show feeR m n v = _
      unfold feeR
      rw [if_neg c]
theorem ag_feed {G : QW} {m : AM} {n v : Int} (h : Inv m) (hn1 : -2147483648 ≤ n) (hn2 : n < 2147483648) (hv1 : -2147483648 ≤ v) (hv2 : v < 2147483648) : AG G mX11_feed mX12_feed 1 1 0 0 [vI n, vI v] m :=
  AG.key (g := fun N => feeR N n v) (cr_feed h.s h.i hn1 hn2 hv1 hv2) (fun a b => ct_X12_feed a b hn1 hn2 hv1 hv2) (key_feed h n v)
/-! signing -/
theorem sgn_eq {m : AM} (hQ : QR m) (h6 : K6 m) {p : Int} (hp : 0 ≤ p ∧ p < 20) : ∀ n : Nat, n ≤ 12 → snC m p n = cntI (sgF m p) n := by
  intro n
  induction n with
  | zero => intro _; rfl
  | succ n ih =>
    intro hn
    have s := signed_iff hQ h6 (q := (n : Int)) hp (by omega)
    unfold snC cntI
    rw [ih (by omega)]
    unfold sgF
    by_cases c : mi m 11 (((n : Int) * 20) + p).toNat ≠ -1
    · rw [if_pos c, if_pos (s.mpr c)]; rfl
    · rw [if_neg c, if_neg (fun z => c (s.mp z))]; rfl
theorem snC_cg {m N : AM} (e : ∀ j, mi N 11 j = mi m 11 j) (p : Int) : ∀ n : Nat, snC N p n = snC m p n := by
  intro n
  induction n with
  | zero => rfl
  | succ n ih =>
    unfold snC
    rw [ih, e]
theorem key_sign {m : AM} (h : Inv m) (q p w : Int) (hw2 : w < 2147483648) : KeyP (FX11_sign m q p w) (fun N => sigR N q p w) := by
  have e : mi m 6 5 = mi m 86 70 := h.k6.1
  have h70 := h.i.s 86 70 0 20 (by decide)
  by_cases c : (0 ≤ q ∧ q ≤ 11) ∧ (0 ≤ p ∧ p < mi m 86 70) ∧ 0 ≤ w ∧ z_ishr w (mi m 86 70) = 0
  · have s := signed_iff h.1 h.k6 (q := q) (p := p) (by omega) (by omega)
    by_cases c2 : mi m 11 ((q * 20) + p).toNat ≠ -1
    · refine keyP_no h (v := -5) ?_ ?_
      · unfold FX11_sign
        rw [if_neg (show ¬ q < 0 by omega), if_neg (show ¬ q ≥ 12 by omega), e, if_pos c.2.1, if_neg (show ¬ w < 0 by omega), if_pos c.2.2.2, if_pos c2]
      · show sigR m q p w = _
        unfold sigR
        rw [if_pos c, if_pos (s.mpr c2)]
    · have f1 : FX11_sign m q p w = (snC (si m 11 ((q * 20) + p).toNat w) p 12, si m 11 ((q * 20) + p).toNat w) := by
        unfold FX11_sign
        rw [if_neg (show ¬ q < 0 by omega), if_neg (show ¬ q ≥ 12 by omega), e, if_pos c.2.1, if_neg (show ¬ w < 0 by omega), if_pos c.2.2.2, if_neg c2]
      have f2 : ∀ N, mi N 86 70 = mi m 86 70 → mi N 137 ((12 * p) + q).toNat = mi m 137 ((12 * p) + q).toNat → sigR N q p w = (cntI (sgF (sgM N q p w) p) 12, sgM N q p w) := fun N a b => by
        unfold sigR
        rw [a, if_pos c, b, if_neg (fun z => c2 (s.mp z))]
      have hk : (mi m 86 70).toNat < 32 := by omega
      have lw : w < 2 ^ (mi m 86 70).toNat := shr_zero c.2.2.1 hw2 hk (by rw [show (((mi m 86 70).toNat : Nat) : Int) = mi m 86 70 by omega]; exact c.2.2.2)
      have lw2 : w < 1048576 := by
        have : (2 : Int) ^ (mi m 86 70).toNat ≤ 2 ^ 20 := by
          have : (2 : Nat) ^ (mi m 86 70).toNat ≤ 2 ^ 20 := Nat.pow_le_pow_right (by decide) (by omega)
          exact_mod_cast this
        have g : (2 : Int) ^ 20 = 1048576 := by decide
        omega
      have zr := z_ior_rng w 1048576
      have i1 : IM (si m 11 ((q * 20) + p).toNat w) := h.i.oneA (by decide) (by decide) (by decide) (by decide) (fun j hj => by omega) (by decide)
      have i2 : IM (si (si m 11 ((q * 20) + p).toNat w) 137 ((12 * p) + q).toNat (z_ior w 1048576)) := i1.oneA (by decide) (by decide) (by decide) (by decide) (fun j hj => by omega) (by decide)
      have e11 : ∀ j, mi (si (si m 11 ((q * 20) + p).toNat w) 137 ((12 * p) + q).toNat (z_ior w 1048576)) 11 j = mi (si m 11 ((q * 20) + p).toNat w) 11 j := fun j => mi_si_ne _ _ (by omega)
      have w1 : ∀ j, mi (si m 11 ((q * 20) + p).toNat w) 11 j = if j = ((q * 20) + p).toNat then w else mi m 11 j := fun j => by
        by_cases z : j = ((q * 20) + p).toNat
        · rw [if_pos z, z, mi_si_same _ _ _ (by omega) (by omega)]
        · rw [if_neg z, mi_si_ne _ _ (by omega)]
      have w2 : ∀ j, mi (si (si m 11 ((q * 20) + p).toNat w) 137 ((12 * p) + q).toNat (z_ior w 1048576)) 137 j = if j = ((12 * p) + q).toNat then z_ior w 1048576 else mi m 137 j := fun j => by
        by_cases z : j = ((12 * p) + q).toNat
        · rw [if_pos z, z, mi_si_same _ _ _ zr.1 (by omega)]
        · rw [if_neg z, mi_si_ne _ _ (by omega), mi_si_ne _ _ (by omega)]
      have wo : ∀ c j, c ≠ 11 → c ≠ 137 → mi (si (si m 11 ((q * 20) + p).toNat w) 137 ((12 * p) + q).toNat (z_ior w 1048576)) c j = mi m c j := fun c j a b => by rw [mi_si_ne _ _ (fun z => b z.1), mi_si_ne _ _ (fun z => a z.1)]
      have wl : ∀ c j, ml (si (si m 11 ((q * 20) + p).toNat w) 137 ((12 * p) + q).toNat (z_ior w 1048576)) c j = ml m c j := fun c j => rfl
      have wz : (si (si m 11 ((q * 20) + p).toNat w) 137 ((12 * p) + q).toNat (z_ior w 1048576)).2.2 = m.2.2 := rfl
      rw [f1]
      unfold KeyP
      show St (si m 11 ((q * 20) + p).toNat w) ∧ IM (si m 11 ((q * 20) + p).toNat w) ∧ snC (si m 11 ((q * 20) + p).toNat w) p 12 = (sigR (si m 11 ((q * 20) + p).toNat w) q p w).1 ∧ Inv (sigR (si m 11 ((q * 20) + p).toNat w) q p w).2
      rw [f2 _ (mi_si_ne _ _ (by omega)) (mi_si_ne _ _ (by omega))]
      unfold sgM
      show St (si m 11 ((q * 20) + p).toNat w) ∧ IM (si m 11 ((q * 20) + p).toNat w) ∧ snC (si m 11 ((q * 20) + p).toNat w) p 12 = cntI (sgF (si (si m 11 ((q * 20) + p).toNat w) 137 ((12 * p) + q).toNat (z_ior w 1048576)) p) 12 ∧ Inv (si (si m 11 ((q * 20) + p).toNat w) 137 ((12 * p) + q).toNat (z_ior w 1048576))
      have hSa : St (si m 11 ((q * 20) + p).toNat w) := h.s
      generalize si (si m 11 ((q * 20) + p).toNat w) 137 ((12 * p) + q).toNat (z_ior w 1048576) = N at i2 e11 w2 wo wl wz
      have k6 : K6 N := by
        have a := h.k6
        unfold K6 alG at a ⊢
        rw [wo 6 5 (by decide) (by decide), wo 86 70 (by decide) (by decide)]
        refine ⟨a.1, fun p' h0 h1 => ?_, fun p' q' h0 h1 h2 h3 => ?_⟩
        · simp only [wo 7 _ (by decide) (by decide), wo 8 _ (by decide) (by decide), wo 9 _ (by decide) (by decide), wo 10 _ (by decide) (by decide), wo 133 _ (by decide) (by decide), wo 134 _ (by decide) (by decide), wo 135 _ (by decide) (by decide), wo 136 _ (by decide) (by decide)]
          exact a.2.1 p' h0 h1
        · by_cases y : p' = p ∧ q' = q
          · refine Or.inr ⟨by omega, ?_, ?_, fun i hi hb => ?_⟩
            · rw [y.1, y.2, w2, if_pos rfl, e11, w1, if_pos rfl]
            · rw [y.1, y.2, e11, w1, if_pos rfl]; omega
            · rw [y.1, y.2, e11, w1, if_pos rfl] at hb
              by_cases g : (mi m 86 70).toNat ≤ i
              · rw [bt_hi c.2.2.1 lw hk g] at hb
                exact absurd hb (by decide)
              · omega
          · rw [e11, w1, w2, if_neg (by omega), if_neg (by omega)]
            exact a.2.2 p' q' h0 h1 h2 h3
      have v : QV m N := QV.mk0 wz (fun c j hc => wo c j (fun z => hc (by unfold NV; omega)) (fun z => hc (by unfold NV; omega)))
      have inv : Inv N := by
        refine h.qv v (h.1.1.fr (v.st h.s) i2 (fun c j hc => ?_)) (fun c j hc => wo c j (by omega) (by omega)) (h.k4.fr (fun c j hc => wo c j (by omega) (by omega))) (h.k5.fr (fun c j hc => wo c j (by omega) (by omega))) k6 (h.k7.fr (fun c j hc => wo c j (by omega) (by omega)) (fun c j _ => wl c j)) (h.k8.fr (fun c j hc => wo c j (by omega) (by omega))) (h.k9.fr (fun c j hc => wo c j (by omega) (by omega))) (h.ka.fr (fun c j hc => wo c j (by omega) (by omega)))
        rcases hc with q | q
        · have := (by decide : ∀ c ∈ riL, 88 ≤ c ∧ c ≤ 114) c q
          exact wo c j (by omega) (by omega)
        · exact wo c j (by omega) (by omega)
      refine ⟨hSa, i1, ?_, inv⟩
      rw [← sgn_eq inv.1 inv.k6 (by omega) 12 (by decide), snC_cg e11]
  · refine keyP_no h (v := -1) ?_ ?_
    · unfold FX11_sign
      rw [e]
      by_cases c1 : q < 0
      · rw [if_pos c1]
      · rw [if_neg c1]
        by_cases c2 : q ≥ 12
        · rw [if_pos c2]
        · rw [if_neg c2]
          by_cases c3 : 0 ≤ p ∧ p < mi m 86 70
          · rw [if_pos c3]
            by_cases c4 : w < 0
            · rw [if_pos c4]
            · rw [if_neg c4, if_neg (fun z => c ⟨by omega, c3, by omega, z⟩)]
          · rw [if_neg c3]
    · show sigR m q p w = _
      unfold sigR
      rw [if_neg c]
theorem ag_sign {G : QW} {m : AM} {q p w : Int} (h : Inv m) (hq1 : -2147483648 ≤ q) (hq2 : q < 2147483648) (hp1 : -2147483648 ≤ p) (hp2 : p < 2147483648) (hw1 : -2147483648 ≤ w) (hw2 : w < 2147483648) : AG G mX11_sign mX12_sign 2 2 0 0 [vI q, vI p, vI w] m :=
  AG.key (g := fun N => sigR N q p w) (ct_X11_sign h.s h.i hq1 hq2 hp1 hp2 hw1 hw2) (fun a b => ct_X12_sign a b hq1 hq2 hp1 hp2 hw1 hw2) (key_sign h q p w hw2)

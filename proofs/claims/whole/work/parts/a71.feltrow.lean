/-! feltRow() -/
theorem lshr2 {x : Int} (h : -9223372036854775808 ≤ x) (h2 : x < 9223372036854775808) : z_lshr x 2 = x / 4 := by
  unfold z_lshr
  have e : ((zi 2).toInt64 &&& 63) = 2 := by decide
  have e2 : ((2 : Int64).toBitVec.smod 64) = 2#64 := by decide
  have e3 : (zl x).toBitVec.toInt = x := zl_toInt h h2
  rw [e]
  show ((zl x) >>> (2 : Int64)).toBitVec.toInt = _
  rw [Int64.toBitVec_shiftRight, e2, BitVec.sshiftRight_eq', BitVec.toInt_sshiftRight, e3, Int.shiftRight_eq_div_pow]
  rfl
theorem ff_eq {m : AM} {o : Nat} {s i : Int} (h1 : ml m (o + 1) i.toNat = ml m 141 ((60 * s) + i).toNat) (h2 : mi m (o + 2) i.toNat = mi m 142 ((60 * s) + i).toNat) (h3 : 0 ≤ mi m (o + 2) i.toNat ∧ mi m (o + 2) i.toNat ≤ 1) : FX7_feltFrom m o i = frW (frV m s i) := by
  have r := ml_rng m (o + 1) i.toNat
  unfold FX7_feltFrom frV
  rw [← h1, ← h2, lshr2 r.1 (by omega)]
  unfold frW FJ9_max_f86c9 FJ9_min_f86c9
  generalize ml m (o + 1) i.toNat = x
  by_cases c : mi m (o + 2) i.toNat ≠ 1
  · rw [if_pos c, if_neg (show ¬ mi m (o + 2) i.toNat ≠ 0 by omega), z_l2i_of (by (repeat' split) <;> omega) (by (repeat' split) <;> omega)]
    (repeat' split) <;> omega
  · rw [if_neg c, if_pos (show mi m (o + 2) i.toNat ≠ 0 by omega)]
    rfl
theorem frW_rng (v : Int) : -99999 ≤ frW v ∧ frW v ≤ 99999 := by
  unfold frW
  (repeat' split) <;> omega
theorem trL_at {f : Nat} {k : Int} {o : Nat} {i : Int} (g : Int → Int) (hg : ∀ x, -99999 ≤ g x ∧ g x ≤ 99999) (h1 : f + 6 + k.toNat ≠ o + 2) : ∀ (c : Nat) (t : Int) (N : AM), 0 ≤ t → (∀ x : Int, t ≤ x → x < t + c → FX7_feltFrom N o (i + x) = g x) → ∀ p j, mi (trL f k o i c t N) p j = if p = f + 6 + k.toNat ∧ t ≤ (j : Int) ∧ (j : Int) < t + c then g (j : Int) else mi N p j := by
  intro c
  induction c with
  | zero => intro t N _ _ p j; rw [if_neg (by omega)]; rfl
  | succ c ih =>
    intro t N ht hN p j
    have e0 := hN t (by omega) (by omega)
    have gr := hg t
    have step := ih (t + 1) (si N (f + 6 + k.toNat) t.toNat (FX7_feltFrom N o (i + t))) (by omega) (fun x x0 x1 => by
      rw [← hN x (by omega) (by omega)]
      unfold FX7_feltFrom FJ9_max_f86c9 FJ9_min_f86c9
      rw [mi_si_ne _ _ (fun q => h1 q.1.symm)]
      rfl) p j
    show mi (trL f k o i c (t + 1) _) p j = _
    rw [step, e0]
    by_cases q : p = f + 6 + k.toNat ∧ t + 1 ≤ (j : Int) ∧ (j : Int) < t + 1 + c
    · rw [if_pos q, if_pos (by omega)]
    · rw [if_neg q]
      by_cases q2 : p = f + 6 + k.toNat ∧ j = t.toNat
      · rw [if_pos (by omega), q2.1, q2.2, mi_si_same _ _ _ (by omega) (by omega), show ((t.toNat : Nat) : Int) = t by omega]
      · rw [mi_si_ne _ _ q2, if_neg (by omega)]
theorem frLr_at {s k : Int} (hk : 0 ≤ k) : ∀ (x : Nat) (n : Int) (N : AM), 0 ≤ mi N 104 k.toNat → mi N 104 k.toNat + x ≤ 1000 → (frLr s k x n N).2 = N.2 ∧ mi (frLr s k x n N) 104 k.toNat = mi N 104 k.toNat + x ∧ (∀ c j, c ≠ 105 → ¬ (c = 104 ∧ j = k.toNat) → mi (frLr s k x n N) c j = mi N c j) ∧ ∀ j : Nat, mi (frLr s k x n N) 105 j = if 200 * k + mi N 104 k.toNat ≤ (j : Int) ∧ (j : Int) < 200 * k + mi N 104 k.toNat + x then frW (frV N s (n + ((j : Int) - (200 * k + mi N 104 k.toNat)))) else mi N 105 j := by
  intro x
  induction x with
  | zero => intro n N h0 _; exact ⟨rfl, by show mi N 104 k.toNat = mi N 104 k.toNat + ((0 : Nat) : Int); omega, fun _ _ _ _ => rfl, fun j => by rw [if_neg (by omega)]; rfl⟩
  | succ x ih =>
    intro n N h0 h1
    have w := frW_rng (frV N s n)
    have e1 : mi (si (si N 105 ((200 * k) + mi N 104 k.toNat).toNat (frW (frV N s n))) 104 k.toNat (mi N 104 k.toNat + 1)) 104 k.toNat = mi N 104 k.toNat + 1 := mi_si_same _ _ _ (by omega) (by omega)
    obtain ⟨a, b, c, d⟩ := ih (n + 1) (si (si N 105 ((200 * k) + mi N 104 k.toNat).toNat (frW (frV N s n))) 104 k.toNat (mi N 104 k.toNat + 1)) (by rw [e1]; omega) (by rw [e1]; omega)
    rw [e1] at b d
    refine ⟨a, ?_, fun p j q1 q2 => ?_, fun j => ?_⟩
    · show mi (frLr s k x (n + 1) _) 104 k.toNat = _
      rw [b]; omega
    · show mi (frLr s k x (n + 1) _) p j = _
      rw [c p j q1 q2, mi_si_ne _ _ q2, mi_si_ne _ _ (fun z => q1 z.1)]
    · show mi (frLr s k x (n + 1) _) 105 j = _
      have fv : ∀ y, frV (si (si N 105 ((200 * k) + mi N 104 k.toNat).toNat (frW (frV N s n))) 104 k.toNat (mi N 104 k.toNat + 1)) s y = frV N s y := fun y => by
        unfold frV
        rw [mi_si_ne _ _ (by omega), mi_si_ne _ _ (by omega)]
        rfl
      rw [d, fv]
      by_cases q : 200 * k + (mi N 104 k.toNat + 1) ≤ (j : Int) ∧ (j : Int) < 200 * k + (mi N 104 k.toNat + 1) + x
      · rw [if_pos q, if_pos (by omega)]
        congr 2
        omega
      · rw [if_neg q, mi_si_ne _ _ (by omega)]
        by_cases q2 : j = ((200 * k) + mi N 104 k.toNat).toNat
        · rw [if_pos (by omega), q2, mi_si_same _ _ _ (by omega) (by omega)]
          congr 2
          omega
        · rw [if_neg (by omega), mi_si_ne _ _ (by omega)]
/-- a FELT's row: n numbers g, on both sides -/
theorem key_rw {m A N : AM} {f : Int} {k : Nat} (h : Inv m) (hf : 0 ≤ f ∧ f < mi m 0 17) (hk : k < 3) {n : Int} (hn : -1 ≤ n ∧ n ≤ 60) (g : Int → Int) (hg : ∀ x, -99999 ≤ g x ∧ g x ≤ 99999) (zA : A.2 = m.2) (vA : ∀ p j, mi A p j = if p = fl m f + 4 ∧ j = k then n else if p = fl m f + 6 + k ∧ (j : Int) < n then g j else mi m p j) (zN : N.2 = A.2) (vN : ∀ p j, p ≠ 105 → mi N p j = if p = 104 ∧ (j : Int) = 3 * f + k then n else mi A p j) (v5 : ∀ j : Nat, mi N 105 j = if 200 * (3 * f + k) ≤ (j : Int) ∧ (j : Int) < 200 * (3 * f + k) + n then g ((j : Int) - 200 * (3 * f + k)) else mi A 105 j) : St A ∧ IM A ∧ Inv N := by
  have F0 := h.k0.2.2.1 f hf.1 hf.2
  obtain ⟨q1, q2, q3⟩ := h.1.flt hf.1 hf.2
  have loA : ∀ c j : Nat, c < 145 → mi A c j = mi m c j := fun c j hc => by rw [vA, if_neg (by omega), if_neg (by omega)]
  have iA : IM A := h.i.hi loA
  have P3 : N.2 = m.2 := zN.trans zA
  have P4 : N.2.2 = m.2.2 := congrArg (fun q => q.2) P3
  have eml : ∀ c j, ml N c j = ml m c j := fun c j => congrArg (fun q : (Nat → Nat → Int) × _ => (zl (q.1 c j)).toInt) P3
  refine ⟨shc_st h.s (congrArg (fun q => q.2) zA), iA, ?_⟩
  have hiN : ∀ c j : Nat, 145 ≤ c → mi N c j = mi A c j := fun c j hc => by rw [vN _ _ (by omega), if_neg (by omega)]
  have iN : IM N := by
    refine iA.rg (fun q hq => Or.inl ?_) (fun q hq j => ?_) (fun j hj => ?_)
    · have z := (by decide : ∀ q ∈ imS, q.1 ≠ 105 ∧ q.1 ≠ 104) q hq
      rw [vN _ _ z.1, if_neg (fun y => z.2 y.1)]
    · by_cases c5 : q.1 = 105
      · have z := (by decide : ∀ q ∈ imA, q.1 = 105 → q.2.1 = -99999 ∧ q.2.2 = 99999) q hq c5
        rw [c5, v5, z.1, z.2]
        split
        · exact Or.inr (hg _)
        · exact Or.inl rfl
      · rw [vN _ _ c5]
        by_cases c4 : q.1 = 104 ∧ (j : Int) = 3 * f + k
        · have z := (by decide : ∀ q ∈ imA, q.1 = 104 → q.2.1 = -1 ∧ q.2.2 = 60) q hq c4.1
          rw [if_pos c4, z.1, z.2]
          exact Or.inr hn
        · rw [if_neg c4]; exact Or.inl rfl
    · rw [vN _ _ (by omega), if_neg (by omega), vN _ _ (by omega), if_neg (by omega), vN _ _ (by omega), if_neg (by omega), vN _ _ (by omega), if_neg (by omega)]
      exact iA.2.2 j hj
  have fg : FLG N (fl m f) := by
    obtain ⟨a1, a2, a3, a4, a5, a6, a7, a8⟩ := q2
    have e1 : mr N = mr m := congrArg (fun q => q.1) P4
    have e3 : mk N = mk m := congrArg (fun q => q.2.1) P4
    have e4 : mn N = mn m := congrArg (fun q => q.2.2.1) P4
    have e5 : mz N = mz m := congrArg (fun q => q.2.2.2) P4
    refine ⟨obz P4 a1, a2, fun i hi => by rw [e1, e3, e4, e5]; exact a3 i hi, fun j => ?_, fun j => ?_, fun j => ?_, fun j => ?_, fun i hi j => ?_⟩
    · rw [hiN _ _ (by omega), vA, if_neg (by omega), if_neg (by omega)]; exact a4 j
    · rw [hiN _ _ (by omega), vA, if_neg (by omega), if_neg (by omega)]; exact a5 j
    · rw [hiN _ _ (by omega), vA, if_neg (by omega), if_neg (by omega)]; exact a6 j
    · rw [hiN _ _ (by omega), vA]
      split
      · exact hn
      · rw [if_neg (by omega)]; exact a7 j
    · rw [hiN _ _ (by omega), vA, if_neg (by omega)]
      split
      · exact hg _
      · exact a8 i hi j
  refine h.fl1 hf P4 (fun p j r1 r2 => by rw [vN _ _ (by omega), if_neg (by omega), vA, if_neg (by omega), if_neg (by omega)]) eml (fun p j r1 r2 r3 => by rw [vN _ _ (by omega), if_neg (by omega), loA _ _ (by omega)]) (fun j r => by
    rw [v5, if_neg (by omega), loA _ _ (by omega)]) iN fg ?_
  intro x hx
  obtain ⟨r1, r2, r3, r4, r5⟩ := q3 x hx
  have b : ∀ d, d = 1 ∨ d = 2 ∨ d = 3 → mi N (fl m f + d) x = mi m (fl m f + d) x := fun d hd => by rw [hiN _ _ (by omega), vA, if_neg (by omega), if_neg (by omega)]
  have b4 : mi N (fl m f + 4) x = if x = k then n else mi m (fl m f + 4) x := by
    rw [hiN _ _ (by omega), vA]
    by_cases y : x = k
    · rw [if_pos ⟨rfl, y⟩, if_pos y]
    · rw [if_neg (fun z => y z.2), if_neg (by omega), if_neg y]
  have c : ∀ d j, d = 101 ∨ d = 102 ∨ d = 103 → mi N d j = mi m d j := fun d j hd => by rw [vN _ _ (by omega), if_neg (by omega), loA _ _ (by omega)]
  rw [fl2 P4, b 1 (by omega), b 2 (by omega), b 3 (by omega), b4, c 101 _ (by omega), c 102 _ (by omega), c 103 _ (by omega), vN 104 _ (by omega)]
  by_cases y : x = k
  · rw [if_pos y, if_pos (by omega)]
    refine ⟨r1, r2, r3, rfl, fun j hj => ?_⟩
    rw [hiN _ _ (by omega), vA, if_neg (by omega), if_pos (by omega), v5, if_pos (by omega)]
    congr 1
    omega
  · rw [if_neg y, if_neg (by omega), loA _ _ (by omega)]
    refine ⟨r1, r2, r3, r4, fun j hj => ?_⟩
    have n60 := (q2.2.2.2.2.2.2.1 x).2
    rw [hiN _ _ (by omega), vA, if_neg (by omega), if_neg (by omega), v5, if_neg (by omega), loA _ _ (by omega)]
    exact r5 j hj
theorem key_feltRow {m : AM} (h : Inv m) (fk s i : Int) : KeyP (FX11_feltRow m fk s i) (fun N => felR N fk s i) := by
  have e17 : mi m 0 17 = mi m 86 21 := h.1.2.2.1.1
  by_cases c : (0 ≤ fk ∧ (0 ≤ fk / 10 ∧ fk / 10 < mi m 0 17) ∧ fk % 10 ≤ 2) ∧ (s = -1 ∨ (0 ≤ s ∧ s ≤ 5))
  · have hf : 0 ≤ fk / 10 ∧ fk / 10 < mi m 0 17 := c.1.2.1
    have F0 := h.k0.2.2.1 (fk / 10) hf.1 hf.2
    have hk : (fk % 10).toNat < 3 := by omega
    have hx : fkX fk = 3 * (fk / 10) + ((fk % 10).toNat : Nat) := by unfold fkX; omega
    have cR : ∀ N, mi N 86 21 = mi m 86 21 → (0 ≤ fk ∧ (0 ≤ fk / 10 ∧ fk / 10 < mi N 86 21) ∧ 0 ≤ fk % 10 ∧ fk % 10 ≤ 2) ∧ (s = -1 ∨ (0 ≤ s ∧ s ≤ 5)) := fun N e => by rw [e]; omega
    have lo : ∀ {A : AM} {n : Int} {g : Int → Int}, (∀ p j, mi A p j = if p = fl m (fk / 10) + 4 ∧ j = (fk % 10).toNat then n else if p = fl m (fk / 10) + 6 + (fk % 10).toNat ∧ (j : Int) < n then g j else mi m p j) → ∀ p j, p < 145 → mi A p j = mi m p j := fun {A n g} vA p j hp => by rw [vA, if_neg (by omega), if_neg (by omega)]
    -- nothing is taken over: 0 or -1
    have plain : ∀ n : Int, (n = 0 ∨ n = -1) → FX11_feltRow m fk s i = (0, si m (fl m (fk / 10) + 4) (fk % 10).toNat n) → (∀ N, (∀ p j, p < 145 → mi N p j = mi m p j) → felR N fk s i = (0, si N 104 (fkX fk).toNat n)) → KeyP (FX11_feltRow m fk s i) (fun N => felR N fk s i) := fun n hn f1 f2 => by
      have vA : ∀ p j, mi (si m (fl m (fk / 10) + 4) (fk % 10).toNat n) p j = if p = fl m (fk / 10) + 4 ∧ j = (fk % 10).toNat then n else if p = fl m (fk / 10) + 6 + (fk % 10).toNat ∧ (j : Int) < n then (fun _ => (0 : Int)) j else mi m p j := fun p j => by
        by_cases q : p = fl m (fk / 10) + 4 ∧ j = (fk % 10).toNat
        · rw [if_pos q, q.1, q.2, mi_si_same _ _ _ (by omega) (by omega)]
        · rw [if_neg q, mi_si_ne _ _ q, if_neg (by omega)]
      have g2 := f2 (si m (fl m (fk / 10) + 4) (fk % 10).toNat n) (lo (n := n) (g := fun _ => (0 : Int)) vA)
      rw [f1]
      unfold KeyP
      show St (si m (fl m (fk / 10) + 4) (fk % 10).toNat n) ∧ IM (si m (fl m (fk / 10) + 4) (fk % 10).toNat n) ∧ (0 : Int) = (felR (si m (fl m (fk / 10) + 4) (fk % 10).toNat n) fk s i).1 ∧ Inv (felR (si m (fl m (fk / 10) + 4) (fk % 10).toNat n) fk s i).2
      rw [g2]
      obtain ⟨k1, k2, k3⟩ := key_rw (A := si m (fl m (fk / 10) + 4) (fk % 10).toNat n) (N := si (si m (fl m (fk / 10) + 4) (fk % 10).toNat n) 104 (fkX fk).toNat n) h hf hk (n := n) (by omega) (fun _ => 0) (fun _ => by decide) rfl vA rfl (fun p j hp => by
        by_cases q : p = 104 ∧ (j : Int) = 3 * (fk / 10) + ((fk % 10).toNat : Nat)
        · rw [if_pos q, q.1, show j = (fkX fk).toNat by omega, mi_si_same _ _ _ (by omega) (by omega)]
        · rw [if_neg q, mi_si_ne _ _ (by omega)]) (fun j => by rw [if_neg (by omega), mi_si_ne _ _ (by omega)])
      exact ⟨k1, k2, rfl, k3⟩
    by_cases c1 : s = -1
    · refine plain (-1) (Or.inr rfl) ?_ (fun N eN => ?_)
      · unfold FX11_feltRow
        rw [if_pos c.1, if_neg (show ¬ s < -1 by omega), if_pos (show s < 6 by omega), if_neg (show ¬ s ≠ -1 by omega)]
        rfl
      · unfold felR
        rw [if_pos (cR N (eN _ _ (by decide))), if_neg (by omega), if_pos (by omega), if_pos (by omega)]
    · have hs : 0 ≤ s ∧ s ≤ 5 := by omega
      obtain ⟨e1, e2, r2, r3, r4, K⟩ := shelf_eq h hs
      have a := K.2
      by_cases c2 : mi m 139 s.toNat = -1
      · have c3 := e1.mp c2
        refine plain 0 (Or.inl rfl) ?_ (fun N eN => ?_)
        · have t0 : trN m (68 + 3 * s.toNat) i = 0 := by unfold trN; rw [if_neg (by omega)]
          unfold FX11_feltRow
          rw [if_pos c.1, if_neg (show ¬ s < -1 by omega), if_pos (show s < 6 by omega), if_pos c1, if_pos c3, t0]
          rfl
        · unfold felR
          rw [if_pos (cR N (eN _ _ (by decide))), eN 139 _ (by decide), if_neg (by omega), if_pos (by omega), if_neg (by omega)]
      · have n1 : ¬ (mi m (68 + 3 * s.toNat) 2 < 0 ∧ mi m (68 + 3 * s.toNat) 3 = -1) := fun z => c2 (e1.mpr z)
        by_cases c3 : mi m (68 + 3 * s.toNat) 3 = 3 ∨ mi m (68 + 3 * s.toNat) 3 = 4
        · have c4 : mi m (68 + 3 * s.toNat) 3 ≠ -1 := by omega
          rw [if_pos c4] at a
          have l := (K.1 c4).2.1
          have f1 : FX11_feltRow m fk s i = (trN m (68 + 3 * s.toNat) i, si (trL (fl m (fk / 10)) (fk % 10) (68 + 3 * s.toNat) i (trN m (68 + 3 * s.toNat) i).toNat 0 m) (fl m (fk / 10) + 4) (fk % 10).toNat (trN m (68 + 3 * s.toNat) i)) := by
            unfold FX11_feltRow
            rw [if_pos c.1, if_neg (show ¬ s < -1 by omega), if_pos (show s < 6 by omega), if_pos c1, if_neg n1, if_pos c3]
          by_cases c5 : i < 0
          · have t0 : trN m (68 + 3 * s.toNat) i = 0 := by unfold trN; rw [if_neg (by omega)]
            rw [t0] at f1
            refine plain 0 (Or.inl rfl) f1 (fun N eN => ?_)
            unfold felR
            rw [if_pos (cR N (eN _ _ (by decide))), eN 139 _ (by decide), if_neg (by omega), if_pos (by omega), if_neg (by omega)]
          · by_cases c6 : i ≥ mi m (68 + 3 * s.toNat) 4
            · have t0 : trN m (68 + 3 * s.toNat) i = 0 := by unfold trN; rw [if_neg (by omega)]
              rw [t0] at f1
              refine plain 0 (Or.inl rfl) f1 (fun N eN => ?_)
              unfold felR
              rw [if_pos (cR N (eN _ _ (by decide))), eN 139 _ (by decide), if_neg (by omega), if_neg (by omega), eN 140 _ (by decide), show (mi m 140 s.toNat - i).toNat = 0 by omega]
              show (mi (si N 104 (fkX fk).toNat 0) 104 (fkX fk).toNat, si N 104 (fkX fk).toNat 0) = _
              rw [mi_si_same _ _ _ (by decide) (by decide)]
            · have tn : trN m (68 + 3 * s.toNat) i = mi m (68 + 3 * s.toNat) 4 - i := by unfold trN; rw [if_pos (by omega)]
              rw [tn] at f1
              generalize hn : mi m (68 + 3 * s.toNat) 4 - i = n at f1
              have hn0 : 1 ≤ n ∧ n ≤ 60 := by omega
              have gE : ∀ x : Int, 0 ≤ x → x < n → FX7_feltFrom m (68 + 3 * s.toNat) (i + x) = frW (frV m s (i + x)) := fun x x0 x1 => by
                have g := (K.1 c4).2.2 (i + x).toNat (by omega)
                have r := h.r70 (t := s.toNat) (by omega) (i + x).toNat
                refine ff_eq ?_ ?_ ?_
                · rw [show ((60 * s) + (i + x)).toNat = 60 * s.toNat + (i + x).toNat by omega]; exact g.1
                · rw [show ((60 * s) + (i + x)).toNat = 60 * s.toNat + (i + x).toNat by omega]; exact g.2
                · rw [show 68 + 3 * s.toNat + 2 = 70 + 3 * s.toNat by omega]; exact r
              have L := trL_at (f := fl m (fk / 10)) (k := fk % 10) (o := 68 + 3 * s.toNat) (i := i) (fun x => frW (frV m s (i + x))) (fun x => frW_rng _) (by omega) n.toNat 0 m (by decide) (fun x x0 x1 => gE x x0 (by omega))
              rw [f1]
              unfold KeyP
              generalize hA : si (trL (fl m (fk / 10)) (fk % 10) (68 + 3 * s.toNat) i n.toNat 0 m) (fl m (fk / 10) + 4) (fk % 10).toNat n = A
              have zA : A.2 = m.2 := by rw [← hA]; exact trL_2 n.toNat 0 m
              have vA : ∀ p j, mi A p j = if p = fl m (fk / 10) + 4 ∧ j = (fk % 10).toNat then n else if p = fl m (fk / 10) + 6 + (fk % 10).toNat ∧ (j : Int) < n then (fun x => frW (frV m s (i + x))) j else mi m p j := fun p j => by
                rw [← hA]
                by_cases q : p = fl m (fk / 10) + 4 ∧ j = (fk % 10).toNat
                · rw [if_pos q, q.1, q.2, mi_si_same _ _ _ (by omega) (by omega)]
                · rw [if_neg q, mi_si_ne _ _ q, L]
                  by_cases q2 : p = fl m (fk / 10) + 6 + (fk % 10).toNat ∧ (j : Int) < n
                  · rw [if_pos q2, if_pos (by omega)]
                  · rw [if_neg q2, if_neg (by omega)]
              clear hA
              have eA := lo (n := n) (g := fun x => frW (frV m s (i + x))) vA
              have f2 : felR A fk s i = (mi (frLr s (fkX fk) n.toNat i (si A 104 (fkX fk).toNat 0)) 104 (fkX fk).toNat, frLr s (fkX fk) n.toNat i (si A 104 (fkX fk).toNat 0)) := by
                unfold felR
                rw [if_pos (cR A (eA _ _ (by decide))), eA 139 _ (by decide), if_neg (by omega), if_neg (by omega), eA 140 _ (by decide), show mi m 140 s.toNat - i = n by omega]
              have z104 : mi (si A 104 (fkX fk).toNat 0) 104 (fkX fk).toNat = 0 := mi_si_same _ _ _ (by decide) (by decide)
              obtain ⟨b1, b2, b3, b4⟩ := frLr_at (s := s) (k := fkX fk) (by omega) n.toNat i (si A 104 (fkX fk).toNat 0) (by rw [z104]; decide) (by rw [z104]; omega)
              rw [z104] at b2 b4
              have fv : ∀ y, frV (si A 104 (fkX fk).toNat 0) s y = frV m s y := fun y => by
                have eml : ∀ c j, ml A c j = ml m c j := fun c j => congrArg (fun q : (Nat → Nat → Int) × _ => (zl (q.1 c j)).toInt) zA
                unfold frV
                rw [mi_si_ne _ _ (by omega), eA _ _ (by decide), ml_si, eml]
              show St A ∧ IM A ∧ n = (felR A fk s i).1 ∧ Inv (felR A fk s i).2
              rw [f2]
              obtain ⟨k1, k2, k3⟩ := key_rw (A := A) (N := frLr s (fkX fk) n.toNat i (si A 104 (fkX fk).toNat 0)) h hf hk (n := n) (by omega) (fun x => frW (frV m s (i + x))) (fun x => frW_rng _) zA vA b1 (fun p j hp => by
                by_cases q : p = 104 ∧ (j : Int) = 3 * (fk / 10) + ((fk % 10).toNat : Nat)
                · rw [if_pos q, q.1, show j = (fkX fk).toNat by omega, b2]; omega
                · rw [if_neg q, b3 p j hp (by omega), mi_si_ne _ _ (by omega)]) (fun j => by
                rw [b4]
                by_cases q : 200 * (3 * (fk / 10) + ((fk % 10).toNat : Nat)) ≤ (j : Int) ∧ (j : Int) < 200 * (3 * (fk / 10) + ((fk % 10).toNat : Nat)) + n
                · rw [if_pos (by omega), if_pos q, fv]
                  show frW (frV m s _) = frW (frV m s _)
                  congr 2
                  omega
                · rw [if_neg (by omega), if_neg q, mi_si_ne _ _ (by omega)])
              exact ⟨k1, k2, by rw [b2]; omega, k3⟩
        · refine keyP_no h (v := -12) ?_ ?_
          · unfold FX11_feltRow
            rw [if_pos c.1, if_neg (show ¬ s < -1 by omega), if_pos (show s < 6 by omega), if_pos c1, if_neg n1, if_neg c3]
          · show felR m fk s i = _
            unfold felR
            rw [if_pos (cR m rfl), if_pos ⟨hs.1, c2, fun z => by split at a <;> omega⟩]
  · refine keyP_no h (v := -1) ?_ ?_
    · unfold FX11_feltRow
      by_cases q1 : 0 ≤ fk ∧ (0 ≤ fk / 10 ∧ fk / 10 < mi m 0 17) ∧ fk % 10 ≤ 2
      · rw [if_pos q1]
        by_cases q2 : s < -1
        · rw [if_pos q2]
        · rw [if_neg q2, if_neg (fun z => c ⟨q1, by omega⟩)]
      · rw [if_neg q1]
    · show felR m fk s i = _
      unfold felR
      rw [if_neg (fun z => c ⟨by omega, z.2⟩)]
theorem ag_feltRow {G : QW} {m : AM} {f s i : Int} (h : Inv m) (hf1 : -2147483648 ≤ f) (hf2 : f < 2147483648) (hs1 : -2147483648 ≤ s) (hs2 : s < 2147483648) (hi1 : -2147483648 ≤ i) (hi2 : i < 2147483648) : AG G mX11_feltRow mX12_feltRow 3 3 0 0 [vI f, vI s, vI i] m :=
  AG.key (g := fun N => felR N f s i) (cg_feltRow h.s h.i hf1 hf2 hs1 hs2 hi1 hi2 h.1.hf h.l4) (fun a b => ct_X12_feltRow a b hf1 hf2 hs1 hs2 hi1 hi2) (key_feltRow h f s i)

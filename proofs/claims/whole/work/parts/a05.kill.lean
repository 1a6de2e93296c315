/-! a box dies in the class's cells -/
theorem kill_row (N : AM) (o : Nat) (b f : Int) : (∀ c j : Nat, c ≠ o + 2 → c ≠ o + 3 → ¬ (c = o ∧ j = 7) → mi (FX9_kill N o b f) c j = mi N c j) ∧ (∀ j : Nat, mi (FX9_kill N o b f) (o + 3) j = if j = b.toNat then (zi f).toInt else mi N (o + 3) j) ∧ mi (FX9_kill N o b f) o 7 = z_ior (mi N o 7) (z_ishl 1 b) ∧ (0 ≤ b → ∀ j : Nat, mi (FX9_kill N o b f) (o + 2) j = if 4 * b ≤ (j : Int) ∧ (j : Int) < 4 * b + 4 then 0 else mi N (o + 2) j) := by
  have z0 : (zi 0).toInt = 0 := by decide
  refine ⟨fun c j h2 h3 h7 => ?_, fun j => ?_, ?_, fun hb j => ?_⟩
  · unfold FX9_kill
    rw [mi_si_ne _ _ (fun q => h2 q.1), mi_si_ne _ _ (fun q => h2 q.1), mi_si_ne _ _ (fun q => h2 q.1), mi_si_ne _ _ (fun q => h2 q.1), mi_si_ne _ _ h7, mi_si_ne _ _ (fun q => h3 q.1)]
  · unfold FX9_kill
    rw [mi_si_ne _ _ (by omega), mi_si_ne _ _ (by omega), mi_si_ne _ _ (by omega), mi_si_ne _ _ (by omega), mi_si_ne _ _ (by omega), mi_si]
    by_cases e : j = b.toNat
    · rw [if_pos ⟨rfl, e⟩, if_pos e]
    · rw [if_neg (fun q => e q.2), if_neg e]
  · unfold FX9_kill
    rw [mi_si_ne _ _ (by omega), mi_si_ne _ _ (by omega), mi_si_ne _ _ (by omega), mi_si_ne _ _ (by omega), mi_si_same _ _ _ (z_ior_rng _ _).1 (z_ior_rng _ _).2, mi_si_ne _ _ (by omega)]
  · unfold FX9_kill
    rw [mi_si, mi_si, mi_si, mi_si, mi_si_ne _ _ (by omega), mi_si_ne _ _ (by omega), z0]
    by_cases e : 4 * b ≤ (j : Int) ∧ (j : Int) < 4 * b + 4
    · rw [if_pos e]
      by_cases e3 : j = (((b * 4) + 1 + 1) + 1).toNat
      · rw [if_pos ⟨rfl, e3⟩]
      · rw [if_neg (fun q => e3 q.2)]
        by_cases e2 : j = ((b * 4) + 1 + 1).toNat
        · rw [if_pos ⟨rfl, e2⟩]
        · rw [if_neg (fun q => e2 q.2)]
          by_cases e1 : j = ((b * 4) + 1).toNat
          · rw [if_pos ⟨rfl, e1⟩]
          · rw [if_neg (fun q => e1 q.2), if_pos ⟨rfl, by omega⟩]
    · rw [if_neg e, if_neg (by omega), if_neg (by omega), if_neg (by omega), if_neg (by omega)]
theorem bt_kill {x b : Int} (h0 : 0 ≤ x) (h : x < 64) (hb : 0 ≤ b ∧ b ≤ 5) : (∀ j : Nat, j < 6 → bt (z_ior x (z_ishl 1 b)) j = (bt x j || decide ((j : Int) = b))) ∧ 0 < z_ior x (z_ishl 1 b) ∧ z_ior x (z_ishl 1 b) < 64 := by
  obtain ⟨k, rfl⟩ : ∃ k : Nat, b = k := ⟨b.toNat, by omega⟩
  have hk : k < 6 := by omega
  have hbit : ∀ i : Nat, i < 32 → bt (z_ior x (z_ishl 1 (k : Int))) i = (bt x i || decide (i = k)) := by
    intro i hi
    rw [bt_or, bt_shl (by omega) hi]
  have hr := z_ior_rng x (z_ishl 1 (k : Int))
  have h31 := hbit 31 (by decide)
  rw [bt_neg _ hr.1 hr.2, bt_hi h0 (show x < 2 ^ 6 by omega) (by decide) (by decide)] at h31
  have hn : ¬ z_ior x (z_ishl 1 (k : Int)) < 0 := by
    intro q
    have e : decide (31 = k) = false := decide_eq_false (by omega)
    rw [e, decide_eq_true q] at h31
    exact absurd h31 (by decide)
  refine ⟨fun j hj => ?_, ?_, ?_⟩
  · rw [hbit j (by omega)]
    congr 1
    exact decide_eq_decide.mpr (by omega)
  · have hne : z_ior x (z_ishl 1 (k : Int)) ≠ 0 := by
      intro q
      have := hbit k (by omega)
      rw [q, bt_0, decide_eq_true (rfl : k = k), Bool.or_true] at this
      exact absurd this (by decide)
    omega
  · refine lt_of_bits (k := 6) (by omega) hr.2 (fun i h6 hi => ?_)
    rw [hbit i hi, bt_hi h0 (show x < 2 ^ 6 by omega) (by decide) h6, decide_eq_false (by omega)]
    rfl
theorem JC.kill {N : AM} {o : Nat} {S : ZS} (h : JC N o S) {b f : Int} (hb : 0 ≤ b ∧ b ≤ 5) (hf : 0 < f ∧ f ≤ 10) : JC (FX9_kill N o b f) o (zwKill b f S) := by
  obtain ⟨k1, k2, k3, k4⟩ := kill_row N o b f
  obtain ⟨h1, h2, h3, h4, h5, h6, h7, h8, h9⟩ := h
  have bk := bt_kill h8 h9 hb
  have zf : (zi f).toInt = f := zi_toInt (by omega) (by omega)
  refine ⟨fun j hj => ?_, fun j hj => ?_, fun j hj => ?_, fun j hj => ?_, fun j hj => ?_, fun j hj => ?_, fun j hj => ?_, ?_, ?_⟩
  · rw [k1 _ _ (by omega) (by omega) (by omega)]; exact h1 j hj
  · rw [k4 hb.1 j, h2 j hj]; rfl
  · rw [k2 j, h3 j hj, zf]; rfl
  · rw [k1 _ _ (by omega) (by omega) (by omega)]; exact h4 j hj
  · rw [k1 _ _ (by omega) (by omega) (by omega)]; exact h5 j hj
  · rw [k1 _ _ (by omega) (by omega) (by omega)]; exact h6 j hj
  · rw [k3, bk.1 j hj, h7 j hj]
    show (decide (S.fa j ≠ 0) || decide ((j : Int) = b)) = decide (zu S.fa b.toNat f j ≠ 0)
    unfold zu
    by_cases e : j = b.toNat
    · rw [if_pos e, decide_eq_true (show (j : Int) = b by omega), Bool.or_true, decide_eq_true (show f ≠ 0 by omega)]
    · rw [if_neg e, decide_eq_false (show ¬ (j : Int) = b by omega), Bool.or_false]
  · rw [k3]; omega
  · rw [k3]; exact bk.2.2
/-- what a run keeps, whoever does his tick -/
def BI (m : AM) (o : Nat) (g : Prop) (N : AM) (S : ZS) : Prop := TF o m N ∧ IM N ∧ RC N o ∧ JC N o S ∧ (g → JF N o S)
theorem kill_bi {m N : AM} {o : Nat} {b f : Int} (ho : sto o) (t : TF o m N) (hi : IM N) (rc : RC N o) (hf : 0 < f ∧ f ≤ 10) : TF o m (FX9_kill N o b f) ∧ IM (FX9_kill N o b f) ∧ RC (FX9_kill N o b f) o := by
  have ho2 := ho
  unfold sto at ho2
  have c2 : tcl o (o + 2) := Or.inr (by omega)
  have s2 : ∀ (K : AM) (k : Nat), IM K → IM (si K (o + 2) k 0) := fun K k hk => hk.std ho (r := 2) (by decide) (by omega) (by omega) (by omega)
  have r2 : ∀ (K : AM) (k : Nat), RC K o → RC (si K (o + 2) k 0) o := fun K k hk => hk.put (by omega) (by omega) (by omega) _
  unfold FX9_kill
  exact ⟨(((((t.cell (Or.inr (by omega)) _ _).cell (Or.inr (by omega)) _ _).cell c2 _ _).cell c2 _ _).cell c2 _ _).cell c2 _ _, s2 _ _ (s2 _ _ (s2 _ _ (s2 _ _ (IM.std (r := 0) (hi.std ho (r := 3) (by decide) (by omega) (by omega) (by omega)) ho (by decide) (by omega) (by omega) (by omega))))), r2 _ _ (r2 _ _ (r2 _ _ (r2 _ _ ((rc.put (by omega) (by omega) (by omega) _).put (by omega) (by omega) (by omega) _))))⟩
theorem BI.kill {m N : AM} {o : Nat} {S : ZS} {g : Prop} (ho : sto o) (h : BI m o g N S) {b f : Int} (hb : 0 ≤ b ∧ b ≤ 5) (hf : 0 < f ∧ f ≤ 10) : BI m o False (FX9_kill N o b f) (zwKill b f S) := by
  obtain ⟨t, hi, rc, jc, -⟩ := h
  obtain ⟨a1, a2, a3⟩ := kill_bi (b := b) ho t hi rc hf
  exact ⟨a1, a2, a3, jc.kill hb hf, fun q => q.elim⟩
theorem CT.kill {N : AM} {C : ZC} (h : CT N C) {o : Nat} (ho : sto o) (b f : Int) : CT (FX9_kill N o b f) C := by
  unfold sto at ho
  unfold FX9_kill
  exact (((((h.ne (by omega) (by omega) _).ne (by omega) (by omega) _).ne (by omega) (by omega) _).ne (by omega) (by omega) _).ne (by omega) (by omega) _).ne (by omega) (by omega) _
/-- a box fails: all that is kept, and the first fault -/
theorem LI.fail {m N : AM} {o x p : Nat} {C : ZC} {g : Prop} {S : ZS} (ho : sto o) (h : LI m o x p C g N S) {b t l f : Int} (hb : 0 ≤ b ∧ b ≤ 5) (hf : 0 < f ∧ f ≤ 10) (ht : 0 ≤ t ∧ t ≤ 199) (hl : 0 ≤ l ∧ l ≤ 11) : LI m o x p C g (FX9_fail N o b t l f) (zwFail b t l f S) := by
  obtain ⟨tf, hi, r, rc, ct, r8, jc, jf⟩ := h
  have ho2 := ho
  unfold sto at ho2
  have kk : ∀ K : AM, TF o m K → IM K → (mr K 17 4 = some o ∧ mr K 17 5 = some x ∧ mr K 17 6 = some p) → RC K o → CT K C → (0 ≤ mi K 17 8 ∧ mi K 17 8 ≤ 100) → JC K o (S.1, S.2.1, S.2.2.1, S.2.2.2.1, S.2.2.2.2.1, S.2.2.2.2.2.1, S.fi) → (g → (mi K (o + 7) 0 = (if S.fi.1 < 0 then (t, b, l, f) else S.fi).1 ∧ mi K (o + 7) 1 = (if S.fi.1 < 0 then (t, b, l, f) else S.fi).2.1 ∧ mi K (o + 7) 2 = (if S.fi.1 < 0 then (t, b, l, f) else S.fi).2.2.1 ∧ mi K (o + 7) 3 = (if S.fi.1 < 0 then (t, b, l, f) else S.fi).2.2.2)) → LI m o x p C g (FX9_kill (si K (o + 4) b.toNat t) o b f) (zwFail b t l f S) := by
    intro K t1 i1 rr c1 ct1 r1 j1 f1
    have j2 : JC (si K (o + 4) b.toNat t) o (S.1, S.2.1, S.2.2.1, zu S.da b.toNat t, S.2.2.2.2.1, S.2.2.2.2.2.1, S.fi) := by
      have q := j1.row4 b.toNat t
      rw [zi_toInt (by omega) (by omega)] at q
      exact q
    have t2 := t1.cell (c := o + 4) (Or.inr (by omega)) b.toNat t
    have i2 := i1.std ho (r := 4) (k := b.toNat) (v := t) (by decide) (by omega) (by omega) (by omega)
    have c2 : RC (si K (o + 4) b.toNat t) o := c1.put (by omega) (by omega) (by omega) _
    obtain ⟨a1, a2, a3⟩ := kill_bi (b := b) ho t2 i2 c2 hf
    obtain ⟨k1, k2, k3, k4⟩ := kill_row (si K (o + 4) b.toNat t) o b f
    have j3 := j2.kill hb hf
    refine ⟨a1, a2, rr, a3, (ct1.ne (by omega) (by omega) _).kill ho _ _, ?_, ?_, fun hg => ?_⟩
    · rw [k1 _ _ (by omega) (by omega) (by omega), mi_si_ne _ _ (by omega)]
      exact r1
    · exact j3
    · have e7 : ∀ j, mi (FX9_kill (si K (o + 4) b.toNat t) o b f) (o + 7) j = mi K (o + 7) j := fun j => by rw [k1 _ _ (by omega) (by omega) (by omega), mi_si_ne _ _ (by omega)]
      have bk := bt_kill j2.2.2.2.2.2.2.2.1 j2.2.2.2.2.2.2.2.2 hb
      have hfi : 0 ≤ (zwFail b t l f S).fi.1 := by
        show 0 ≤ (if S.fi.1 < 0 then (t, b, l, f) else S.fi).1
        split
        · exact ht.1
        · omega
      refine ⟨⟨fun q => ?_, fun q => ?_⟩, fun _ => ?_⟩
      · rw [k3] at q
        omega
      · omega
      · rw [e7, e7, e7, e7]
        exact f1 hg
  unfold FX9_fail
  by_cases c : mi N o 7 ≠ 0
  · rw [if_pos c]
    refine kk N tf hi r rc ct r8 jc (fun hg => ?_)
    have q := jf hg
    have n : ¬ S.fi.1 < 0 := fun z => c (q.1.mpr z)
    rw [if_neg n]
    exact q.2 (by omega)
  · rw [if_neg c]
    have c7 : tcl o (o + 7) := Or.inr (by omega)
    have s7 : ∀ (K : AM) (k : Nat) (v : Int), IM K → IM (si K (o + 7) k v) := fun K k v hk => hk.std ho (r := 7) (by decide) (by omega) (by omega) (by omega)
    have r7 : ∀ (K : AM) (k : Nat) (v : Int), RC K o → RC (si K (o + 7) k v) o := fun K k v hk => hk.put (by omega) (by omega) (by omega) _
    have n7 : ∀ (K : AM) (k : Nat) (v : Int), CT K C → CT (si K (o + 7) k v) C := fun K k v hk => hk.ne (by omega) (by omega) _
    have j7 : ∀ (K : AM) (k : Nat) (v : Int), JC K o S → JC (si K (o + 7) k v) o S := fun K k v hk => hk.ne (by omega) _ _
    refine kk _ ((((tf.cell c7 _ _).cell c7 _ _).cell c7 _ _).cell c7 _ _) (s7 _ _ _ (s7 _ _ _ (s7 _ _ _ (s7 _ _ _ hi)))) r (r7 _ _ _ (r7 _ _ _ (r7 _ _ _ (r7 _ _ _ rc)))) (n7 _ _ _ (n7 _ _ _ (n7 _ _ _ (n7 _ _ _ ct)))) ?_ (j7 _ _ _ (j7 _ _ _ (j7 _ _ _ (j7 _ _ _ jc)))) (fun hg => ?_)
    · rw [mi_si_ne _ _ (by omega), mi_si_ne _ _ (by omega), mi_si_ne _ _ (by omega), mi_si_ne _ _ (by omega)]
      exact r8
    · have q := (jf hg).1.mp (Decidable.not_not.mp c)
      rw [if_pos q]
      have w : ∀ (K : AM) (k : Nat) (i v : Int), i.toNat = k → -2147483648 ≤ v → v < 2147483648 → mi (si K (o + 7) i.toNat v) (o + 7) k = v := by
        intro K k i v hk h1 h2
        subst hk
        exact mi_si_same _ _ _ h1 h2
      have wn : ∀ (K : AM) (k : Nat) (i v : Int), i.toNat ≠ k → mi (si K (o + 7) i.toNat v) (o + 7) k = mi K (o + 7) k := fun K k i v hk => mi_si_ne _ _ (fun q => hk q.2.symm)
      refine ⟨?_, ?_, ?_, ?_⟩
      · rw [wn _ 0 3 _ (by decide), wn _ 0 2 _ (by decide), wn _ 0 1 _ (by decide), w _ 0 0 _ (by decide) (by omega) (by omega)]
      · rw [wn _ 1 3 _ (by decide), wn _ 1 2 _ (by decide), w _ 1 1 _ (by decide) (by omega) (by omega)]
      · rw [wn _ 2 3 _ (by decide), w _ 2 2 _ (by decide) (by omega) (by omega)]
      · rw [w _ 3 3 _ (by decide) (by omega) (by omega)]

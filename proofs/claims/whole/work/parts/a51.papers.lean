/-! what stands along with a paper, by bits -/
theorem bitI (x : Int) {k : Int} (h0 : 0 ≤ k) (h1 : k < 32) : z_iand (z_ishr x k) 1 = if bt x k.toNat then 1 else 0 := by
  have q := bit_of x (k := k.toNat) (by omega)
  rw [show ((k.toNat : Nat) : Int) = k by omega] at q
  exact q
theorem shlI {k : Int} (h0 : 0 ≤ k) (h1 : k < 32) {i : Nat} (hi : i < 32) : bt (z_ishl 1 k) i = decide (i = k.toNat) := by
  have q := bt_shl (k := k.toNat) (by omega) hi
  rw [show ((k.toNat : Nat) : Int) = k by omega] at q
  exact q
theorem and_not_iff {x y : Int} : z_iand x (z_ixor y (-1)) = 0 ↔ ∀ i : Nat, i < 32 → bt x i = true → bt y i = true := by
  constructor
  · intro h i hi hx; exact and_not_zero h hi hx
  · intro h
    rw [zero_of (z_iand_rng _ _).1 (z_iand_rng _ _).2]
    intro i hi
    rw [bt_and, bt_not _ hi]
    cases hx : bt x i
    · rfl
    · rw [h i hi hx]; rfl
theorem and_iff {x y : Int} : z_iand x y = 0 ↔ ∀ i : Nat, i < 32 → bt x i = true → bt y i = false := by
  rw [zero_of (z_iand_rng _ _).1 (z_iand_rng _ _).2]
  constructor
  · intro h i hi hx
    have q := h i hi
    rw [bt_and, hx] at q
    simpa using q
  · intro h i hi
    rw [bt_and]
    cases hx : bt x i
    · rfl
    · rw [h i hi hx]; rfl
/-- what paper p stands on -/
def s1P (m : AM) (p : Nat) : Int := mi m 136 (2 * (p : Int)).toNat
def s2P (m : AM) (p : Nat) : Int := mi m 136 ((2 * (p : Int)) + 1).toNat
theorem sP_r {m : AM} (hQ : QR m) {p : Nat} (hp : (p : Int) < mi m 86 70) : (s1P m p < p ∧ s2P m p < p) ∧ p < 20 := by
  have h := hQ.1.2 p (by omega) hp
  have h70 := hQ.i.s 86 70 0 20 (by decide)
  exact ⟨⟨h.2.2.1, h.2.2.2⟩, by omega⟩
theorem al_bit {m : AM} (hQ : QR m) (h6 : K6 m) {p : Nat} (hp : (p : Int) < mi m 86 70) {j : Nat} (hj : j < 32) : bt (mi m 10 p) j = true ↔ (0 ≤ s1P m p ∧ bt (mi m 10 (s1P m p).toNat) j = true) ∨ (0 ≤ s2P m p ∧ bt (mi m 10 (s2P m p).toNat) j = true) ∨ j = p := by
  have e := (h6.2.1 p (by omega) hp).2
  have r := sP_r hQ hp
  rw [show ((p : Int)).toNat = p from Int.toNat_natCast p] at e
  have g : ∀ s : Int, s < p → (bt (alG m s) j = true ↔ 0 ≤ s ∧ bt (mi m 10 s.toNat) j = true) := fun s hs => by
    unfold alG
    by_cases c : 0 ≤ s ∧ s < 20
    · rw [if_pos c]
      exact ⟨fun q => ⟨c.1, q⟩, fun q => q.2⟩
    · rw [if_neg c, bt_0]
      exact ⟨fun q => absurd q (by decide), fun q => absurd ⟨q.1, by omega⟩ c⟩
  rw [e, bt_or, bt_or, Bool.or_eq_true, Bool.or_eq_true, shlI (by omega) (by omega) hj, decide_eq_true_iff, show ((p : Int)).toNat = p from Int.toNat_natCast p]
  have a := g (s1P m p) r.1.1
  have b := g (s2P m p) r.1.2
  unfold s1P s2P at *
  rw [a, b]
  exact or_assoc
theorem al_self {m : AM} (hQ : QR m) (h6 : K6 m) {p : Nat} (hp : (p : Int) < mi m 86 70) : bt (mi m 10 p) p = true := (al_bit hQ h6 hp (by have := sP_r hQ hp; omega)).mpr (Or.inr (Or.inr rfl))
theorem al_le {m : AM} (hQ : QR m) (h6 : K6 m) {j : Nat} (hj : j < 32) : ∀ (x p : Nat), p < x → (p : Int) < mi m 86 70 → bt (mi m 10 p) j = true → j ≤ p := by
  intro x
  induction x with
  | zero => intro p h; omega
  | succ x ih =>
    intro p hx hp h
    have r := sP_r hQ hp
    rcases (al_bit hQ h6 hp hj).mp h with q | q | q
    · have := ih (s1P m p).toNat (by omega) (by omega) q.2; omega
    · have := ih (s2P m p).toNat (by omega) (by omega) q.2; omega
    · omega
theorem al_trans {m : AM} (hQ : QR m) (h6 : K6 m) {j l : Nat} (hj : j < 32) (hl : l < 32) : ∀ (x p : Nat), p < x → (p : Int) < mi m 86 70 → bt (mi m 10 p) j = true → bt (mi m 10 j) l = true → bt (mi m 10 p) l = true := by
  intro x
  induction x with
  | zero => intro p h; omega
  | succ x ih =>
    intro p hx hp h g
    have r := sP_r hQ hp
    rcases (al_bit hQ h6 hp hj).mp h with q | q | q
    · exact (al_bit hQ h6 hp hl).mpr (Or.inl ⟨q.1, ih _ (by omega) (by omega) q.2 g⟩)
    · exact (al_bit hQ h6 hp hl).mpr (Or.inr (Or.inl ⟨q.1, ih _ (by omega) (by omega) q.2 g⟩))
    · rw [← q]; exact g
/-- paper p holds -/
def hP (m : AM) (k : Int) (p : Nat) : Prop := ∀ j : Nat, j < 32 → bt (mi m 10 p) j = true → soV m k j = 1
theorem hP_step {m : AM} (hQ : QR m) (h6 : K6 m) {k : Int} {p : Nat} (hp : (p : Int) < mi m 86 70) : hP m k p ↔ (0 ≤ s1P m p → hP m k (s1P m p).toNat) ∧ (0 ≤ s2P m p → hP m k (s2P m p).toNat) ∧ soV m k p = 1 := by
  constructor
  · intro h
    exact ⟨fun q j hj g => h j hj ((al_bit hQ h6 hp hj).mpr (Or.inl ⟨q, g⟩)), fun q j hj g => h j hj ((al_bit hQ h6 hp hj).mpr (Or.inr (Or.inl ⟨q, g⟩))), h p (by have := sP_r hQ hp; omega) (al_self hQ h6 hp)⟩
  · rintro ⟨a, b, c⟩ j hj g
    rcases (al_bit hQ h6 hp hj).mp g with q | q | q
    · exact a q.1 j hj q.2
    · exact b q.1 j hj q.2
    · rw [q]; exact c
/-- the reference's holdsFor -/
theorem hoL_sem {m : AM} (hQ : QR m) (h6 : K6 m) {k : Int} (hk : 0 ≤ k ∧ k ≤ 1) : ∀ (x p : Nat) (N : AM), p < x → (p : Int) < mi m 86 70 → RA N → FQ m N → ((hoL k x p N).1 = 0 ↔ ¬ hP m k p) ∧ 0 ≤ (hoL k x p N).1 ∧ (hoL k x p N).1 ≤ 1 := by
  intro x
  induction x with
  | zero => intro p N h; omega
  | succ x ih =>
    intro p N hx hp hR hF
    have r := sP_r hQ hp
    have e70 : ∀ M, FQ m M → mi M 86 70 = mi m 86 70 := fun M h => h.cell (by decide) (by decide) (by decide)
    have e136 : ∀ M, FQ m M → ∀ j, mi M 136 j = mi m 136 j := fun M h j => h.cell (by decide) (by decide) (by omega)
    have step : ∀ (s : Int) (M : AM), s < p → RA M → FQ m M → ((hoS k x s M).1 = 0 ↔ ¬ (0 ≤ s → hP m k s.toNat)) ∧ RA (hoS k x s M).2 ∧ FQ m (hoS k x s M).2 := by
      intro s M hs hRM hFM
      unfold hoS
      by_cases c : s ≥ 0
      · rw [if_pos c]
        have i := ih s.toNat M (by omega) (by omega) hRM hFM
        have kp := hoL_keep k x s.toNat M hRM (by rw [e70 M hFM]; omega) (by omega)
        rw [show ((s.toNat : Nat) : Int) = s by omega] at i kp
        exact ⟨by rw [i.1]; exact ⟨fun q g => q (g c), fun q g => q (fun _ => g)⟩, kp.1, hFM.trans kp.2.1⟩
      · rw [if_neg c]
        exact ⟨⟨fun q => absurd q (by show ¬ (1 : Int) = 0; decide), fun q => absurd (fun g => absurd g c) q⟩, hRM, hFM⟩
    have A := step (s1P m p) N r.1.1 hR hF
    have eA : hoA k x p N = hoS k x (s1P m p) N := by unfold hoA s1P; rw [e136 N hF]
    have B := step (s2P m p) (hoS k x (s1P m p) N).2 r.1.2 A.2.1 A.2.2
    have eB : hoB k x p (hoA k x p N).2 = hoS k x (s2P m p) (hoS k x (s1P m p) N).2 := by rw [eA]; unfold hoB s2P; rw [e136 _ A.2.2]
    have S := soM_V (k := k) (p := p) hQ B.2.2 B.2.1 hk ⟨by omega, hp⟩
    have s01 := soV_01 m k p
    rw [hoL_up, eA]
    rw [eA] at eB
    rw [eB, hP_step hQ h6 hp]
    by_cases c1 : (hoS k x (s1P m p) N).1 = 0
    · rw [if_pos c1]
      exact ⟨⟨fun _ q => A.1.mp c1 q.1, fun _ => rfl⟩, Int.le_refl _, by show (0 : Int) ≤ 1; decide⟩
    · have a1 : 0 ≤ s1P m p → hP m k (s1P m p).toNat := Classical.byContradiction fun q => c1 (A.1.mpr q)
      rw [if_neg c1]
      by_cases c2 : (hoS k x (s2P m p) (hoS k x (s1P m p) N).2).1 = 0
      · rw [if_pos c2]
        exact ⟨⟨fun _ q => B.1.mp c2 q.2.1, fun _ => rfl⟩, Int.le_refl _, by show (0 : Int) ≤ 1; decide⟩
      · have a2 : 0 ≤ s2P m p → hP m k (s2P m p).toNat := Classical.byContradiction fun q => c2 (B.1.mpr q)
        rw [if_neg c2, S]
        refine ⟨⟨fun q g => by rw [g.2.2] at q; exact absurd q (by decide), fun q => ?_⟩, by omega, by omega⟩
        rcases s01 with z | z
        · exact z
        · exact absurd ⟨a1, a2, z⟩ q
/-! what was before one who signed -/
theorem seC_bit (m : AM) (w : Int) {j : Nat} (hj : j < 32) : ∀ n : Nat, n ≤ 31 → (bt (seC m w n) j = true ↔ ∃ i : Nat, i < n ∧ bt w i = true ∧ bt (mi m 10 i) j = true) := by
  intro n
  induction n with
  | zero => intro _; rw [show seC m w 0 = 0 from rfl, bt_0]; exact ⟨fun q => absurd q (by decide), fun ⟨i, h, _⟩ => by omega⟩
  | succ n ih =>
    intro hn
    have e : seC m w (n + 1) = z_ior (seC m w n) (if z_iand (z_ishr w n) 1 = 1 then mi m 10 n else 0) := rfl
    rw [e, bt_or, Bool.or_eq_true, ih (by omega), bit_of w (k := n) (by omega)]
    constructor
    · rintro (⟨i, a, b, c⟩ | h)
      · exact ⟨i, by omega, b, c⟩
      · cases hb : bt w n
        · rw [hb] at h; simp [bt_0] at h
        · rw [hb] at h; simp at h; exact ⟨n, by omega, hb, h⟩
    · rintro ⟨i, a, b, c⟩
      by_cases q : i = n
      · subst q; right; rw [b]; simpa using c
      · exact Or.inl ⟨i, by omega, b, c⟩
theorem stW_bit {m : AM} (hQ : QR m) {p : Nat} (hp : (p : Int) < mi m 86 70) {all : Int} {i : Nat} (hi : i < 32) : bt (stW m p all) i = true ↔ bt all i = true ∨ (0 ≤ s1P m p ∧ i = (s1P m p).toNat) ∨ (0 ≤ s2P m p ∧ i = (s2P m p).toNat) := by
  have r := sP_r hQ hp
  have g : ∀ (a s : Int), s < p → (bt (if s ≥ 0 then z_ior a (z_ishl 1 s) else a) i = true ↔ bt a i = true ∨ (0 ≤ s ∧ i = s.toNat)) := fun a s hs => by
    by_cases c : s ≥ 0
    · rw [if_pos c, bt_or, Bool.or_eq_true, shlI c (by omega) hi, decide_eq_true_iff]
      exact ⟨fun q => q.imp id (fun z => ⟨c, z⟩), fun q => q.imp id (fun z => z.2)⟩
    · rw [if_neg c]
      exact ⟨Or.inl, fun q => q.elim id (fun z => absurd z.1 c)⟩
  have e : stW m p all = (if s2P m p ≥ 0 then z_ior (if s1P m p ≥ 0 then z_ior all (z_ishl 1 (s1P m p)) else all) (z_ishl 1 (s2P m p)) else (if s1P m p ≥ 0 then z_ior all (z_ishl 1 (s1P m p)) else all)) := rfl
  rw [e, g _ _ r.1.2, g _ _ r.1.1]
  exact or_assoc
theorem waL_bit {m : AM} (hQ : QR m) (h6 : K6 m) {j : Nat} (hj : j < 32) : ∀ (n : Nat) (all : Int), (n : Int) ≤ mi m 86 70 → (bt (waL m n all) j = true ↔ bt all j = true ∨ ∃ i : Nat, i < n ∧ bt all i = true ∧ bt (mi m 10 i) j = true) := by
  intro n
  induction n with
  | zero => intro all _; exact ⟨Or.inl, fun q => q.elim id (fun ⟨i, h, _⟩ => by omega)⟩
  | succ n ih =>
    intro all hn
    have hp : ((n : Nat) : Int) < mi m 86 70 := by omega
    have r := sP_r hQ hp
    have e : waL m (n + 1) all = waL m n (if z_iand (z_ishr all n) 1 = 0 then all else stW m n all) := rfl
    rw [e, ih _ (by omega), bit_of all (k := n) (by omega)]
    cases hb : bt all n
    · simp only [Bool.false_eq_true, if_false, if_true]
      constructor
      · rintro (h | ⟨i, a, b, c⟩)
        · exact Or.inl h
        · exact Or.inr ⟨i, by omega, b, c⟩
      · rintro (h | ⟨i, a, b, c⟩)
        · exact Or.inl h
        · by_cases q : i = n
          · rw [q, hb] at b; exact absurd b (by decide)
          · exact Or.inr ⟨i, by omega, b, c⟩
    · simp only [if_true, show ¬ (1 : Int) = 0 by decide, if_false]
      have sb : ∀ i, i < 32 → (bt (stW m n all) i = true ↔ bt all i = true ∨ (0 ≤ s1P m n ∧ i = (s1P m n).toNat) ∨ (0 ≤ s2P m n ∧ i = (s2P m n).toNat)) := fun i hi => stW_bit hQ hp hi
      have up : ∀ i, i < 32 → (0 ≤ s1P m n ∧ i = (s1P m n).toNat) ∨ (0 ≤ s2P m n ∧ i = (s2P m n).toNat) → ∀ l, l < 32 → bt (mi m 10 i) l = true → bt (mi m 10 n) l = true := fun i hi q l hl g => by
        rcases q with q | q
        · exact (al_bit hQ h6 hp hl).mpr (Or.inl ⟨q.1, by rw [← q.2]; exact g⟩)
        · exact (al_bit hQ h6 hp hl).mpr (Or.inr (Or.inl ⟨q.1, by rw [← q.2]; exact g⟩))
      have pl : ∀ i, (0 ≤ s1P m n ∧ i = (s1P m n).toNat) ∨ (0 ≤ s2P m n ∧ i = (s2P m n).toNat) → i < n := fun i q => by omega
      constructor
      · rintro (h | ⟨i, a, b, c⟩)
        · rcases (sb j hj).mp h with q | q
          · exact Or.inl q
          · exact Or.inr ⟨n, by omega, hb, up j hj q j hj (al_self hQ h6 (by have := pl j q; omega))⟩
        · rcases (sb i (by omega)).mp b with q | q
          · exact Or.inr ⟨i, by omega, q, c⟩
          · exact Or.inr ⟨n, by omega, hb, up i (by omega) q j hj c⟩
      · rintro (h | ⟨i, a, b, c⟩)
        · exact Or.inl ((sb j hj).mpr (Or.inl h))
        · by_cases q : i = n
          · rw [q] at c
            rcases (al_bit hQ h6 hp hj).mp c with z | z | z
            · exact Or.inr ⟨(s1P m n).toNat, by omega, (sb _ (by omega)).mpr (Or.inr (Or.inl ⟨z.1, rfl⟩)), z.2⟩
            · exact Or.inr ⟨(s2P m n).toNat, by omega, (sb _ (by omega)).mpr (Or.inr (Or.inr ⟨z.1, rfl⟩)), z.2⟩
            · rw [z]; exact Or.inl ((sb n (by omega)).mpr (Or.inl hb))
          · exact Or.inr ⟨i, by omega, (sb i (by omega)).mpr (Or.inl b), c⟩
theorem m20 {i : Nat} (hi : i < 32) : bt 1048576 i = decide (i = 20) := by
  have h : ∀ i : Nat, i < 32 → bt 1048576 i = decide (i = 20) := by decide +kernel
  exact h i hi
theorem m19 {i : Nat} (hi : i < 32) : bt 1048575 i = decide (i < 20) := by
  have h : ∀ i : Nat, i < 32 → bt 1048575 i = decide (i < 20) := by decide +kernel
  exact h i hi
/-- what one who signed saw: the same on both sides -/
theorem waX_se {m : AM} (hQ : QR m) (h6 : K6 m) {q p : Int} (hp : 0 ≤ p ∧ p < 20) (hq : 0 ≤ q ∧ q < 12) (hs : mi m 11 ((q * 20) + p).toNat ≠ -1) : waX m (mi m 137 ((12 * p) + q).toNat) = seX m q p := by
  rcases h6.2.2 p q hp.1 hp.2 hq.1 hq.2 with z | ⟨h0, h1, h2, h3⟩
  · exact absurd z.1 hs
  · have h70 := hQ.i.s 86 70 0 20 (by decide)
    generalize hw : mi m 11 ((q * 20) + p).toNat = w at h1 h2 h3 hs
    have eb : ∀ i, i < 32 → bt (z_iand (mi m 137 ((12 * p) + q).toNat) 1048575) i = bt w i := fun i hi => by
      rw [h1, bt_and, bt_or, m20 hi, m19 hi]
      by_cases c : i < 20
      · have n20 : ¬ i = 20 := by omega
        simp [c, n20]
      · have z : bt w i = false := bt_hi (k := 20) h2.1 (by show w < 1048576; exact h2.2) (by decide) (by omega)
        simp [c, z]
    unfold seX waX
    rw [hw]
    refine bt_ext (waL_rng m _ _ (z_iand_rng _ _)).1 (waL_rng m _ _ (z_iand_rng _ _)).2 (seC_rng m _ _).1 (seC_rng m _ _).2 (fun j hj => ?_)
    have a := waL_bit hQ h6 hj (mi m 86 70).toNat (z_iand (mi m 137 ((12 * p) + q).toNat) 1048575) (by omega)
    have b := seC_bit m w hj (mi m 6 5).toNat (by rw [h6.1]; omega)
    rw [Bool.eq_iff_iff, a, b, h6.1, eb j hj]
    constructor
    · rintro (h | ⟨i, c1, c2, c3⟩)
      · have := h3 j hj h
        exact ⟨j, by omega, h, al_self hQ h6 this⟩
      · rw [eb i (by omega)] at c2
        exact ⟨i, c1, c2, c3⟩
    · rintro ⟨i, c1, c2, c3⟩
      exact Or.inr ⟨i, c1, by rw [eb i (by omega)]; exact c2, c3⟩
theorem signed_iff {m : AM} (hQ : QR m) (h6 : K6 m) {q p : Int} (hp : 0 ≤ p ∧ p < 20) (hq : 0 ≤ q ∧ q < 12) : mi m 137 ((12 * p) + q).toNat > 0 ↔ mi m 11 ((q * 20) + p).toNat ≠ -1 := by
  rcases h6.2.2 p q hp.1 hp.2 hq.1 hq.2 with z | ⟨h0, h1, h2, h3⟩
  · rw [z.1, z.2]; exact ⟨fun h => absurd h (by decide), fun h => absurd rfl h⟩
  · refine ⟨fun _ => by omega, fun _ => ?_⟩
    have r := mi_rng m 137 ((12 * p) + q).toNat
    have b20 : bt (mi m 137 ((12 * p) + q).toNat) 20 = true := by rw [h1, bt_or, m20 (by decide)]; simp
    have b31 : bt (mi m 137 ((12 * p) + q).toNat) 31 = false := by rw [h1, bt_or, m20 (by decide), bt_hi (k := 20) h2.1 (by show _ < (1048576 : Int); exact h2.2) (by decide) (by decide)]; simp
    rw [bt_neg _ r.1 r.2] at b31
    have nn : ¬ mi m 137 ((12 * p) + q).toNat < 0 := by simpa using b31
    have n0 : mi m 137 ((12 * p) + q).toNat ≠ 0 := fun z => by rw [z, bt_0] at b20; exact absurd b20 (by decide)
    omega

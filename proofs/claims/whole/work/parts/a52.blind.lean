/-! saw(), blind(): both sides the same -/
theorem wsC_eq {m : AM} (hQ : QR m) (h6 : K6 m) {p o : Int} (hp : 0 ≤ p ∧ p < 20) (ho : 0 ≤ o ∧ o < 20) : ∀ n : Nat, n ≤ 12 → wsC m p o n = orL (swF m p o) n := by
  intro n
  induction n with
  | zero => intro _; rfl
  | succ n ih =>
    intro hn
    have hq : (0 : Int) ≤ (n : Int) ∧ (n : Int) < 12 := by omega
    have sg := signed_iff hQ h6 hp hq
    have e1 : wsC m p o (n + 1) = z_ior (wsC m p o n) (if mi m 11 (((n : Int) * 20) + p).toNat ≠ -1 then z_ishl (z_iand (z_ishr (seX m n p) o) 1) n else 0) := rfl
    have e2 : orL (swF m p o) (n + 1) = if swF m p o n ≠ 0 then z_ior (orL (swF m p o) n) (z_ishl 1 n) else orL (swF m p o) n := rfl
    have r := orL_rng (swF m p o) n
    have sv : swF m p o n = if mi m 137 ((12 * p) + n).toNat > 0 ∧ z_iand (z_ishr (waX m (mi m 137 ((12 * p) + n).toNat)) o) 1 = 1 then 1 else 0 := rfl
    have z0 : ∀ n : Nat, n < 12 → z_ishl 0 (n : Int) = 0 := by decide +kernel
    rw [e1, e2, ih (by omega)]
    by_cases c : mi m 11 (((n : Int) * 20) + p).toNat ≠ -1
    · have w := waX_se hQ h6 hp hq c
      rw [w] at sv
      by_cases b : z_iand (z_ishr (seX m n p) o) 1 = 1
      · rw [if_pos ⟨sg.mpr c, b⟩] at sv
        rw [if_pos c, b, sv, if_pos (by decide)]
      · have z : z_iand (z_ishr (seX m n p) o) 1 = 0 := by
          rw [bitI _ ho.1 (by omega)] at b ⊢
          split at b
          · exact absurd rfl b
          · next h => rw [if_neg h]
        rw [if_neg (fun q => b q.2)] at sv
        rw [if_pos c, z, z0 n (by omega), sv, if_neg (by decide)]
        exact zor_0 r.1 r.2
    · rw [if_neg (fun q => c (sg.mp q.1))] at sv
      rw [if_neg c, sv, if_neg (by decide)]
      exact zor_0 r.1 r.2
/-! blind -/
theorem inI_bit {m : AM} {so : Int} {q : Nat} (hq : q < 12) {w : Int} {i : Nat} (hi : i < 32) : ∀ n : Nat, bt (inI m so q n w) i = true ↔ bt w i = true ∨ (i = q ∧ ∃ p : Nat, p < n ∧ blP m so q p) := by
  intro n
  induction n with
  | zero => exact ⟨Or.inl, fun z => z.elim id (fun ⟨_, p, h, _⟩ => by omega)⟩
  | succ n ih =>
    by_cases c : blP m so q n
    · have e : inI m so q (n + 1) w = z_ior (inI m so q n w) (z_ishl 1 (q : Int)) := @if_pos _ (Classical.propDecidable _) c _ _ _
      rw [e, bt_or, Bool.or_eq_true, ih, shlI (by omega) (by omega) hi, decide_eq_true_iff, show ((q : Int)).toNat = q from Int.toNat_natCast q]
      constructor
      · rintro ((h | ⟨a, p, b, d⟩) | h)
        · exact Or.inl h
        · exact Or.inr ⟨a, p, by omega, d⟩
        · exact Or.inr ⟨h, n, by omega, c⟩
      · rintro (h | ⟨a, p, b, d⟩)
        · exact Or.inl (Or.inl h)
        · exact Or.inr a
    · have e : inI m so q (n + 1) w = inI m so q n w := @if_neg _ (Classical.propDecidable _) c _ _ _
      rw [e, ih]
      constructor
      · rintro (h | ⟨a, p, b, d⟩)
        · exact Or.inl h
        · exact Or.inr ⟨a, p, by omega, d⟩
      · rintro (h | ⟨a, p, b, d⟩)
        · exact Or.inl h
        · by_cases z : p = n
          · rw [z] at d; exact absurd d c
          · exact Or.inr ⟨a, p, by omega, d⟩
theorem ouI_bit {m : AM} {so : Int} (hm : 0 ≤ mi m 6 5) {i : Nat} (hi : i < 32) : ∀ n : Nat, n ≤ 12 → (bt (ouI m so n) i = true ↔ i < n ∧ ∃ p : Nat, (p : Int) < mi m 6 5 ∧ blP m so i p) := by
  intro n
  induction n with
  | zero => intro _; rw [show ouI m so 0 = 0 from rfl, bt_0]; exact ⟨fun q => absurd q (by decide), fun q => by omega⟩
  | succ n ih =>
    intro hn
    have e : ouI m so (n + 1) = inI m so n (mi m 6 5).toNat (ouI m so n) := rfl
    rw [e, inI_bit (by omega) hi, ih (by omega)]
    constructor
    · rintro (⟨a, p, b, c⟩ | ⟨a, p, b, c⟩)
      · exact ⟨by omega, p, b, c⟩
      · exact ⟨by omega, p, by omega, by rw [a]; exact c⟩
    · rintro ⟨a, p, b, c⟩
      by_cases z : i = n
      · exact Or.inr ⟨z, p, by omega, by rw [← z]; exact c⟩
      · exact Or.inl ⟨by omega, p, b, c⟩
/-- person o signed paper p, and all that they saw is good -/
def biP (m : AM) (bad p : Int) (o : Nat) : Prop := mi m 137 ((12 * p) + o).toNat > 0 ∧ z_iand (waX m (mi m 137 ((12 * p) + o).toNat)) bad = 0
theorem biI_bit {m : AM} {bad p : Int} {i : Nat} (hi : i < 32) : ∀ (x o : Nat) (s : Int), o + x ≤ 12 → (bt (biI m bad p x o s) i = true ↔ bt s i = true ∨ (o ≤ i ∧ i < o + x ∧ biP m bad p i)) := by
  intro x
  induction x with
  | zero => intro o s _; exact ⟨Or.inl, fun z => z.elim id (fun q => by omega)⟩
  | succ x ih =>
    intro o s ho
    have e : biI m bad p (x + 1) o s = biI m bad p x ((o + 1 : Nat) : Int) (if mi m 137 ((12 * p) + o).toNat > 0 ∧ z_iand (waX m (mi m 137 ((12 * p) + o).toNat)) bad = 0 then z_ior s (z_ishl 1 o) else s) := rfl
    rw [e, ih (o + 1) _ (by omega)]
    by_cases c : mi m 137 ((12 * p) + o).toNat > 0 ∧ z_iand (waX m (mi m 137 ((12 * p) + o).toNat)) bad = 0
    · rw [if_pos c, bt_or, Bool.or_eq_true, shlI (by omega) (by omega) hi, decide_eq_true_iff, show ((o : Int)).toNat = o from Int.toNat_natCast o]
      constructor
      · rintro ((h | h) | ⟨a, b, d⟩)
        · exact Or.inl h
        · exact Or.inr ⟨by omega, by omega, by rw [h]; exact c⟩
        · exact Or.inr ⟨by omega, by omega, d⟩
      · rintro (h | ⟨a, b, d⟩)
        · exact Or.inl (Or.inl h)
        · by_cases z : i = o
          · exact Or.inl (Or.inr z)
          · exact Or.inr ⟨by omega, by omega, d⟩
    · rw [if_neg c]
      constructor
      · rintro (h | ⟨a, b, d⟩)
        · exact Or.inl h
        · exact Or.inr ⟨by omega, by omega, d⟩
      · rintro (h | ⟨a, b, d⟩)
        · exact Or.inl h
        · by_cases z : i = o
          · rw [z] at d; exact absurd d c
          · exact Or.inr ⟨by omega, by omega, d⟩
theorem biO_bit {m : AM} {bad : Int} {i : Nat} (hi : i < 32) : ∀ (x p : Nat) (s : Int), p + x ≤ 20 → (bt (biO m bad x p s) i = true ↔ bt s i = true ∨ ∃ d : Nat, (p ≤ d ∧ d < p + x) ∧ bt bad d = true ∧ i < 12 ∧ biP m bad d i) := by
  intro x
  induction x with
  | zero => intro p s _; exact ⟨Or.inl, fun z => z.elim id (fun ⟨d, q, _⟩ => by omega)⟩
  | succ x ih =>
    intro p s hp
    have e : biO m bad (x + 1) p s = biO m bad x ((p + 1 : Nat) : Int) (if z_iand (z_ishr bad p) 1 = 0 then s else biI m bad p 12 0 s) := rfl
    rw [e, ih (p + 1) _ (by omega), bit_of bad (k := p) (by omega)]
    cases hb : bt bad p
    · simp only [Bool.false_eq_true, if_false, if_true]
      constructor
      · rintro (h | ⟨d, a, b, c⟩)
        · exact Or.inl h
        · exact Or.inr ⟨d, by omega, b, c⟩
      · rintro (h | ⟨d, a, b, c⟩)
        · exact Or.inl h
        · by_cases z : d = p
          · rw [z, hb] at b; exact absurd b (by decide)
          · exact Or.inr ⟨d, by omega, b, c⟩
    · simp only [if_true, show ¬ (1 : Int) = 0 by decide, if_false]
      have g := biI_bit (m := m) (bad := bad) (p := (p : Int)) hi 12 0 s (by omega)
      rw [show ((0 : Nat) : Int) = 0 from rfl] at g
      rw [g]
      constructor
      · rintro ((h | ⟨a, b, c⟩) | ⟨d, a, b, c⟩)
        · exact Or.inl h
        · exact Or.inr ⟨p, by omega, hb, by omega, c⟩
        · exact Or.inr ⟨d, by omega, b, c⟩
      · rintro (h | ⟨d, a, b, c⟩)
        · exact Or.inl (Or.inl h)
        · by_cases z : d = p
          · rw [z] at c; exact Or.inl (Or.inr ⟨by omega, by omega, c.2⟩)
          · exact Or.inr ⟨d, by omega, b, c⟩
theorem bdL_bit {m : AM} (hQ : QR m) (h6 : K6 m) {k : Int} (hk : 0 ≤ k ∧ k ≤ 1) {i : Nat} (hi : i < 32) : ∀ (x p : Nat) (b : Int) (N : AM), ((p + x : Nat) : Int) = mi m 86 70 → RA N → FQ m N → (bt (bdL k x p b N).1 i = true ↔ bt b i = true ∨ (p ≤ i ∧ i < p + x ∧ ¬ hP m k i)) ∧ RA (bdL k x p b N).2 ∧ FQ m (bdL k x p b N).2 := by
  intro x
  induction x with
  | zero => intro p b N _ hR hF; exact ⟨⟨Or.inl, fun z => z.elim id (fun q => by omega)⟩, hR, hF⟩
  | succ x ih =>
    intro p b N hx hR hF
    have h70 := hQ.i.s 86 70 0 20 (by decide)
    have hp : (p : Int) < mi m 86 70 := by omega
    have e70 : mi N 86 70 = mi m 86 70 := hF.cell (by decide) (by decide) (by decide)
    have s := (hoL_sem hQ h6 hk 20 p N (by omega) hp hR hF).1
    have kp := hoL_keep k 20 p N hR (by rw [e70]; exact hp) (by omega)
    have e : bdL k (x + 1) p b N = bdL k x ((p + 1 : Nat) : Int) (if (hoL k 20 p N).1 = 0 then z_ior b (z_ishl 1 p) else b) (hoL k 20 p N).2 := rfl
    have j := ih (p + 1) (if (hoL k 20 p N).1 = 0 then z_ior b (z_ishl 1 p) else b) (hoL k 20 p N).2 (by omega) kp.1 (hF.trans kp.2.1)
    rw [e]
    refine ⟨?_, j.2⟩
    rw [j.1]
    by_cases c : (hoL k 20 p N).1 = 0
    · have n := s.mp c
      rw [if_pos c, bt_or, Bool.or_eq_true, shlI (by omega) (by omega) hi, decide_eq_true_iff, show ((p : Int)).toNat = p from Int.toNat_natCast p]
      constructor
      · rintro ((h | h) | ⟨a, b, d⟩)
        · exact Or.inl h
        · exact Or.inr ⟨by omega, by omega, by rw [h]; exact n⟩
        · exact Or.inr ⟨by omega, by omega, d⟩
      · rintro (h | ⟨a, b, d⟩)
        · exact Or.inl (Or.inl h)
        · by_cases z : i = p
          · exact Or.inl (Or.inr z)
          · exact Or.inr ⟨by omega, by omega, d⟩
    · have y : hP m k p := Classical.byContradiction fun z => c (s.mpr z)
      rw [if_neg c]
      constructor
      · rintro (h | ⟨a, b, d⟩)
        · exact Or.inl h
        · exact Or.inr ⟨by omega, by omega, d⟩
      · rintro (h | ⟨a, b, d⟩)
        · exact Or.inl h
        · by_cases z : i = p
          · rw [z] at d; exact absurd y d
          · exact Or.inr ⟨by omega, by omega, d⟩
/-- what is so of each paper itself -/
noncomputable def soB (m : AM) (k : Int) : Int := orL (fun j => soV m k j) (mi m 86 70).toNat
theorem soB_bit {m : AM} (hQ : QR m) (k : Int) {i : Nat} (hi : i < 32) : bt (soB m k) i = true ↔ (i : Int) < mi m 86 70 ∧ soV m k i = 1 := by
  have h70 := hQ.i.s 86 70 0 20 (by decide)
  unfold soB
  rw [bt_orL _ _ (by omega) i hi, decide_eq_true_iff]
  have := soV_01 m k i
  constructor
  · rintro ⟨a, b⟩; exact ⟨by omega, by omega⟩
  · rintro ⟨a, b⟩; exact ⟨by omega, by omega⟩
theorem waX_fq {m N : AM} (h : FQ m N) (s : Int) : waX N s = waX m s := by
  have e136 : mi N 136 = mi m 136 := funext (fun j => h.cell (by decide) (by decide) (by omega))
  have e70 : mi N 86 70 = mi m 86 70 := h.cell (by decide) (by decide) (by decide)
  have g : ∀ (p : Nat) (all : Int), waL N p all = waL m p all := by
    intro p
    induction p with
    | zero => intro all; rfl
    | succ p ih =>
      intro all
      show waL N p _ = waL m p _
      rw [ih]
      unfold stW
      rw [e136]
  unfold waX
  rw [e70, g]
/-- blind(): the same on both sides -/
theorem blind_eq {m N : AM} (hQ : QR m) (h6 : K6 m) {k : Int} (hk : 0 ≤ k ∧ k ≤ 1) : (bliR m k).1 = ouI m (soB m k) 12 := by
  have h70 := hQ.i.s 86 70 0 20 (by decide)
  have D := fun i (hi : i < 32) => bdL_bit hQ h6 hk hi (mi m 86 70).toNat 0 0 m (by omega) hQ.1 (FQ.rf m)
  rw [show ((0 : Nat) : Int) = 0 from rfl] at D
  have e : (bliR m k).1 = biO (blE m k).2 (blE m k).1 (mi m 86 70).toNat 0 0 := by unfold bliR; rw [if_pos hk]
  have F : FQ m (blE m k).2 := (D 0 (by decide)).2.2
  have e137 : ∀ j, mi (blE m k).2 137 j = mi m 137 j := fun j => F.cell (by decide) (by decide) (by omega)
  have rb : -2147483648 ≤ biO (blE m k).2 (blE m k).1 (mi m 86 70).toNat 0 0 ∧ biO (blE m k).2 (blE m k).1 (mi m 86 70).toNat 0 0 < 2147483648 := by
    have g : ∀ (x : Nat) (p s : Int), (-2147483648 ≤ s ∧ s < 2147483648) → -2147483648 ≤ biO (blE m k).2 (blE m k).1 x p s ∧ biO (blE m k).2 (blE m k).1 x p s < 2147483648 := by
      intro x
      induction x with
      | zero => intro p s h; exact h
      | succ x ih =>
        intro p s h
        refine ih _ _ ?_
        split
        · exact h
        · exact biI_rng _ _ _ _ _ _ h
    exact g _ _ _ (by decide)
  rw [e]
  refine bt_ext rb.1 rb.2 (ouI_rng _ _ _).1 (ouI_rng _ _ _).2 (fun i hi => ?_)
  have A := biO_bit (m := (blE m k).2) (bad := (blE m k).1) hi (mi m 86 70).toNat 0 0 (by omega)
  rw [show ((0 : Nat) : Int) = 0 from rfl] at A
  rw [Bool.eq_iff_iff, A, ouI_bit (by rw [h6.1]; omega) hi 12 (Nat.le_refl _), h6.1, bt_0]
  have bad : ∀ d : Nat, d < 32 → (bt (blE m k).1 d = true ↔ (d : Int) < mi m 86 70 ∧ ¬ hP m k d) := fun d hd => by
    show bt (bdL k (mi m 86 70).toNat 0 0 m).1 d = true ↔ _
    rw [(D d hd).1, bt_0]
    constructor
    · rintro (z | ⟨_, a, b⟩)
      · exact absurd z (by decide)
      · exact ⟨by omega, b⟩
    · rintro ⟨a, b⟩; exact Or.inr ⟨by omega, by omega, b⟩
  have key : ∀ p : Nat, (p : Int) < mi m 86 70 → i < 12 → ((bt (blE m k).1 p = true ∧ biP (blE m k).2 (blE m k).1 p i) ↔ blP m (soB m k) i p) := by
    intro p hp h12
    have p20 := (sP_r hQ hp).2
    have hq : (0 : Int) ≤ (i : Int) ∧ (i : Int) < 12 := by omega
    have hpp : (0 : Int) ≤ (p : Int) ∧ (p : Int) < 20 := by omega
    have sg := signed_iff hQ h6 hpp hq
    have g1 : bt (blE m k).1 p = true ↔ z_iand (mi m 10 p) (z_ixor (soB m k) (-1)) ≠ 0 := by
      rw [bad p (by omega), Ne, and_not_iff]
      constructor
      · rintro ⟨_, h⟩ g
        exact h (fun j hj q => ((soB_bit hQ k hj).mp (g j hj q)).2)
      · intro h
        refine ⟨hp, fun g => h (fun j hj q => (soB_bit hQ k hj).mpr ⟨?_, g j hj q⟩)⟩
        have := al_le hQ h6 hj 20 p p20 hp q
        omega
    unfold biP blP
    rw [e137, g1, waX_fq F, show ((p : Int)).toNat = p from Int.toNat_natCast p]
    constructor
    · rintro ⟨a, b, c⟩
      have s := sg.mp b
      rw [waX_se hQ h6 hpp hq s] at c
      refine ⟨s, a, and_not_iff.mpr (fun j hj q => (soB_bit hQ k hj).mpr ?_)⟩
      have w := (and_iff.mp c)
      unfold seX at q w
      obtain ⟨l, l1, l2, l3⟩ := (seC_bit m _ hj (mi m 6 5).toNat (by rw [h6.1]; omega)).mp q
      rw [h6.1] at l1
      have lp : (l : Int) < mi m 86 70 := by omega
      have l20 := (sP_r hQ lp).2
      have nb := w l (by omega) ((seC_bit m _ (by omega) (mi m 6 5).toNat (by rw [h6.1]; omega)).mpr ⟨l, by rw [h6.1]; exact l1, l2, al_self hQ h6 lp⟩)
      have hl : hP m k l := Classical.byContradiction fun z => by
        rw [(bad l (by omega)).mpr ⟨lp, z⟩] at nb
        exact absurd nb (by decide)
      have := al_le hQ h6 hj 20 l l20 lp l3
      exact ⟨by omega, hl j hj l3⟩
    · rintro ⟨s, a, c⟩
      refine ⟨a, sg.mpr s, ?_⟩
      rw [waX_se hQ h6 hpp hq s]
      refine and_iff.mpr (fun j hj q => ?_)
      have w := and_not_iff.mp c
      cases hb : bt (blE m k).1 j
      · rfl
      · obtain ⟨jp, nh⟩ := (bad j hj).mp hb
        refine absurd (fun l hl g => ?_) nh
        unfold seX at q w
        obtain ⟨t, t1, t2, t3⟩ := (seC_bit m _ hj (mi m 6 5).toNat (by rw [h6.1]; omega)).mp q
        rw [h6.1] at t1
        have tp : (t : Int) < mi m 86 70 := by omega
        exact ((soB_bit hQ k hl).mp (w l hl ((seC_bit m _ hl (mi m 6 5).toNat (by rw [h6.1]; omega)).mpr ⟨t, by rw [h6.1]; exact t1, t2, al_trans hQ h6 hj hl 20 t (sP_r hQ tp).2 tp t3 g⟩))).2
  constructor
  · rintro (z | ⟨d, a, b, c, e⟩)
    · exact absurd z (by decide)
    · exact ⟨c, d, by omega, (key d (by omega) c).mp ⟨b, e⟩⟩
  · rintro ⟨c, d, a, b⟩
    have q := (key d a c).mpr b
    exact Or.inr ⟨d, by omega, q.1, c, q.2⟩

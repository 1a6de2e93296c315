/-! best(): the same answer -/
theorem own_bit {m : AM} {b : Int} (K : AgB m (wN m) b) (hb : 0 ≤ b) {k : Nat} (hk : (k : Int) < mi m 91 b.toNat) (h32 : k < 32) : bt (ownC m b) k = true ↔ mi m 93 ((12 * b) + k).toNat ≠ 0 := by
  have q := K.wb hb (l := (k : Int)) (by omega) hk
  rw [bit_of _ h32] at q
  show bt (mi m (pg m b) 8) k = true ↔ _
  by_cases z : mi m 93 ((12 * b) + k).toNat ≠ 0
  · rw [if_pos z] at q
    refine ⟨fun _ => z, fun _ => ?_⟩
    by_cases c : bt (mi m (pg m b) 8) k = true
    · exact c
    · rw [if_neg c] at q; exact absurd q (by decide)
  · rw [if_neg z] at q
    refine ⟨fun c => ?_, fun y => absurd y z⟩
    rw [if_pos c] at q; exact absurd q (by decide)
theorem fre_bit {m : AM} {b : Int} (h6 : 0 ≤ mi m (pg m b) 6 ∧ mi m (pg m b) 6 ≤ 12) {i : Nat} (hi : i < 32) : bt (freC m b) i = (!bt (ownC m b) i && decide ((i : Int) < mi m (pg m b) 6) && decide (i < 8)) := by
  have k : ∀ n : Fin 13, ∀ i : Fin 32, bt (z_ishl 1 ((n : Nat) : Int) - 1) i = decide ((i : Nat) < (n : Nat)) := by decide +kernel
  have k2 : ∀ i : Fin 32, bt 255 i = decide ((i : Nat) < 8) := by decide +kernel
  obtain ⟨n, hn⟩ := Int.eq_ofNat_of_zero_le h6.1
  unfold freC
  rw [hn] at h6 ⊢
  have a := k ⟨n, by omega⟩ ⟨i, hi⟩
  have c := k2 ⟨i, hi⟩
  rw [bt_and, bt_and, bt_not _ hi]
  rw [show bt (z_ishl 1 (n : Int) - 1) i = decide (i < n) from a, show bt 255 i = decide (i < 8) from c]
  have e : decide (i < n) = decide ((i : Int) < (n : Int)) := by
    by_cases z : i < n
    · rw [decide_eq_true z, decide_eq_true (by omega)]
    · rw [decide_eq_false z, decide_eq_false (by omega)]
  rw [e]
theorem many_r {m : AM} (hI : IM m) (b : Int) : 0 ≤ manyX m b ∧ manyX m b ≤ 8 ∧ manyX m b ≤ mi m 91 b.toNat ∧ (manyX m b < 8 → manyX m b = mi m 91 b.toNat) := by
  have q := hI.a 91 0 12 (by decide) b.toNat
  unfold manyX
  split <;> omega
theorem free_iff {m : AM} {b l : Int} (h : QR m) (hb : 0 ≤ b ∧ b < mi m 86 1) (l0 : 0 ≤ l) : (l < 256 ∧ z_iand l (z_ixor (freC m b) (-1)) = 0) ↔ (l < 2 ^ (manyX m b).toNat ∧ z_iand l (orL (ownF m b) (manyX m b).toNat) = 0) := by
  have K := (h.2.1.2 b hb.1 hb.2).1
  have e6 : mi m (pg m b) 6 = mi m 91 b.toNat := K.2.2.2.2.2.2.1
  have r91 := h.i.a 91 0 12 (by decide) b.toNat
  have mr := many_r h.i b
  have fb : ∀ i, i < 32 → bt (freC m b) i = (!bt (ownC m b) i && decide ((i : Int) < mi m 91 b.toNat) && decide (i < 8)) := fun i hi => by
    have := fre_bit (m := m) (b := b) (by omega) hi
    rw [e6] at this
    exact this
  have p8 := pow8 (show (manyX m b).toNat ≤ 8 by omega)
  have ob : ∀ i : Nat, i < 32 → bt (orL (ownF m b) (manyX m b).toNat) i = decide (i < (manyX m b).toNat ∧ ownF m b i ≠ 0) := fun i hi => bt_orL (ownF m b) (manyX m b).toNat (by omega) i hi
  have oe : ∀ i : Nat, ownF m b i = mi m 93 ((12 * b) + i).toNat := fun i => rfl
  constructor
  · rintro ⟨a1, a2⟩
    have sb : ∀ i : Nat, i < 32 → bt l i = true → bt (ownC m b) i = false ∧ (i : Int) < mi m 91 b.toNat ∧ i < 8 := fun i hi q => by
      have w := sub_bit a2 hi q
      rw [fb i hi] at w
      simp only [Bool.and_eq_true, Bool.not_eq_true', decide_eq_true_eq] at w
      exact ⟨w.1.1, w.1.2, w.2⟩
    refine ⟨lt_of_bits l0 (by omega) (fun i hi h32 => ?_), (zero_of (z_iand_rng _ _).1 (z_iand_rng _ _).2).mpr (fun i hi => ?_)⟩
    · cases q : bt l i
      · rfl
      · have w := sb i h32 q
        omega
    · rw [bt_and, ob i hi]
      cases q : bt l i
      · rfl
      · have w := sb i hi q
        rw [Bool.true_and]
        refine decide_eq_false (fun y => ?_)
        rw [oe] at y
        have z := (own_bit K hb.1 w.2.1 hi).mpr y.2
        rw [w.1] at z
        exact absurd z (by decide)
  · rintro ⟨a1, a2⟩
    refine ⟨by omega, (zero_of (z_iand_rng _ _).1 (z_iand_rng _ _).2).mpr (fun i hi => ?_)⟩
    rw [bt_and, bt_not _ hi, fb i hi]
    cases q : bt l i
    · rfl
    · have im : i < (manyX m b).toNat := Decidable.byContradiction (fun y => by
        have := bt_hi l0 a1 (show (manyX m b).toNat < 32 by omega) (show (manyX m b).toNat ≤ i by omega)
        rw [q] at this
        exact absurd this (by decide))
      have z : bt (z_iand l (orL (ownF m b) (manyX m b).toNat)) i = false := by rw [a2, bt_0]
      rw [bt_and, q, Bool.true_and, ob i hi] at z
      have z2 := of_decide_eq_false z
      have ow : bt (ownC m b) i = false := by
        cases y : bt (ownC m b) i
        · rfl
        · exact absurd ⟨im, by rw [oe]; exact (own_bit K hb.1 (by omega) hi).mp y⟩ z2
      rw [ow, decide_eq_true (show (i : Int) < mi m 91 b.toNat by omega), decide_eq_true (show i < 8 by omega)]
      rfl
theorem wM_wW {N : AM} {b : Int} (h48 : mi N 86 48 = b) (hb : 0 ≤ b) : wM N = wW (wN N) b (fun l => watX N b l ((12 * b) + l)) := by
  have e : (fun b' l => if 0 ≤ b' then watX N b' l ((12 * b') + l) else 0 : Int → Int → Int) = fun b' l => if b' = b then watX N b l ((12 * b) + l) else (if 0 ≤ b' then (if mi N 93 ((12 * b') + l).toNat ≠ 0 then 1 else 0) else 0) := by
    funext b' l
    by_cases z : b' = b
    · rw [if_pos z, z, if_pos hb]
    · rw [if_neg z]
      by_cases y : 0 ≤ b'
      · rw [if_pos y, if_pos y]
        unfold watX
        by_cases c : mi N 93 ((12 * b') + l).toNat ≠ 0
        · rw [if_pos (Or.inl c), if_pos c]
        · rw [if_neg (fun q => q.elim c (fun q => z (q.1.trans h48))), if_neg c]
      · rw [if_neg y, if_neg y]
  unfold wM
  rw [e]
  rfl
theorem zwFull_wat {W : ZW} {F : Int → Nat → Int} {n b : Int} {x y : Int → Int} (hok : W.ok) (hb : 0 ≤ b) (h : ∀ l, 0 ≤ l → l < W.nl b → x l = y l) : zwFull (wW W b x) F n = zwFull (wW W b y) F n := by
  rw [← zwFly_0, ← zwFly_0]
  refine (zwFly_watch F n 0 hok hb ?_).symm
  rintro ⟨l, l0, l1, l2, -⟩
  exact l2 (h l l0 l1)
/-- the ground of a reference that tries watches -/
def GB (M : AM) (b s : Int) (N : AM) : Prop := RI N ∧ FQ M N ∧ mi N 86 43 < 0 ∧ mi N 86 46 < 0 ∧ mi N 86 48 = b ∧ mi N 86 49 = s
theorem GB.set {M N : AM} {b s l : Int} (g : GB M b s N) (hl : 0 ≤ l ∧ l < 256) : GB M b l (si N 86 49 l) := by
  have v : ∀ k, k ≠ 49 → mi (si N 86 49 l) 86 k = mi N 86 k := fun k hk => mi_si_ne N l (by omega)
  exact ⟨g.1.own (k := 49) l (by decide) (by decide), g.2.1.own (by omega) _, by rw [v 43 (by decide)]; exact g.2.2.1, by rw [v 46 (by decide)]; exact g.2.2.2.1, by rw [v 48 (by decide)]; exact g.2.2.2.2.1, mi_si_same N _ _ (by omega) (by omega)⟩
theorem GB.run {M N : AM} {b s f n : Int} (hQ : QR M) (hb : 0 ≤ b ∧ b < mi M 86 1) (g : GB M b s N) (hf : 0 ≤ f ∧ f < mi M 0 17) (hn : 1 ≤ n ∧ n ≤ 200) : GB M b s (roM N f n) ∧ JM (roM N f n) (zwFull (Wst M b s) (Fm M f) n) := by
  obtain ⟨a, c, d, e, p, q⟩ := g
  refine ⟨⟨a.run (by omega) hn.2, c.run f n, by rw [roM_k _ _ _ (by omega)]; exact d, by rw [roM_k _ _ _ (by omega)]; exact e, by rw [roM_k _ _ _ (by omega)]; exact p, by rw [roM_k _ _ _ (by omega)]; exact q⟩, ?_⟩
  have j := roM_zwA (f := f) (n := n) (F := feF M (fl M f)) a (HB.fq hQ.1.1 c) (fq_felt hQ c hf) (by omega) hn.2 d e
  have K := (hQ.2.1.2 b hb.1 hb.2).1
  have r91 := hQ.i.a 91 0 12 (by decide) b.toNat
  rw [wM_wW p hb.1, c.wn] at j
  have w : zwFull (wW (wN M) b (fun l => watX N b l ((12 * b) + l))) (feF M (fl M f)) n = zwFull (Wst M b s) (Fm M f) n := by
    refine zwFull_wat hQ.wok hb.1 (fun l l0 l1 => ?_)
    have l1 : l < mi M 91 b.toNat := l1
    obtain ⟨k, rfl⟩ := Int.eq_ofNat_of_zero_le l0
    have ob := own_bit K hb.1 l1 (by omega)
    show watX N b k ((12 * b) + k) = xW (z_ior (ownC M b) s) k
    unfold watX xW
    rw [bit_of _ (show k < 32 by omega), bit_of _ (show k < 32 by omega), bt_or, p, q, c.cell (o := 93) (by omega) (by omega) (by omega)]
    by_cases z : mi M 93 ((12 * b) + k).toNat ≠ 0
    · rw [if_pos (Or.inl z), ob.mpr z]; rfl
    · have o0 : bt (ownC M b) k = false := by
        cases y : bt (ownC M b) k
        · rfl
        · exact absurd (ob.mp y) z
      rw [o0, Bool.false_or]
      cases y : bt s k
      · rw [if_neg (fun w => w.elim z (fun w => absurd w.2 (by decide)))]; rfl
      · rw [if_pos (Or.inr ⟨rfl, rfl⟩)]; rfl
  rw [w] at j
  exact j
theorem iv_sem {M : AM} {b s fs n : Int} (hQ : QR M) (hb : 0 ≤ b ∧ b < mi M 86 1) (hn : 1 ≤ n ∧ n ≤ 200) : ∀ (c : Nat) (f : Int) (N : AM), GB M b s N → f + c = mi M 0 17 → 0 ≤ f → ((ivL b fs n c f N).1 ≠ 0 ↔ ∀ g, f ≤ g → g < mi M 0 17 → z_iand (z_ishr fs g) 1 ≠ 0 → (zwFull (Wst M b s) (Fm M g) n).fa b.toNat = 0) ∧ GB M b s (ivL b fs n c f N).2 := by
  have h16 := hQ.i.s 86 1 0 6 (by decide)
  intro c
  induction c with
  | zero => intro f N g hc hf; exact ⟨⟨fun _ g g0 g1 => by omega, fun _ => show (1 : Int) ≠ 0 by decide⟩, g⟩
  | succ c ih =>
    intro f N g hc hf
    by_cases z : z_iand (z_ishr fs f) 1 = 0
    · rw [show ivL b fs n (c + 1) f N = ivL b fs n c (f + 1) N from if_pos z]
      have q := ih (f + 1) N g (by omega) (by omega)
      refine ⟨q.1.trans ⟨fun y x x0 x1 xb => ?_, fun y x x0 x1 xb => y x (by omega) x1 xb⟩, q.2⟩
      by_cases w : x = f
      · rw [w] at xb; exact absurd z xb
      · exact y x (by omega) x1 xb
    · obtain ⟨g2, j⟩ := g.run (f := f) hQ hb (by omega) hn
      have d := j.dead (b := b) (by omega)
      by_cases y : mi (roM N f n) 111 b.toNat ≠ 0
      · rw [show ivL b fs n (c + 1) f N = (0, roM N f n) from (if_neg z).trans (if_pos y)]
        exact ⟨⟨fun w => absurd rfl w, fun w => absurd (w f (Int.le_refl _) (by omega) z) (d.mp y)⟩, g2⟩
      · rw [show ivL b fs n (c + 1) f N = ivL b fs n c (f + 1) (roM N f n) from (if_neg z).trans (if_neg y)]
        have q := ih (f + 1) _ g2 (by omega) (by omega)
        refine ⟨q.1.trans ⟨fun w x x0 x1 xb => ?_, fun w x x0 x1 xb => w x (by omega) x1 xb⟩, q.2⟩
        by_cases u : x = f
        · rw [u]; exact Decidable.byContradiction (fun v => y (d.mpr v))
        · exact w x (by omega) x1 xb
def oneS (M : AM) (b fs n own : Int) (x : Int) : Prop := z_iand x own = 0 ∧ outl (Wst M b x) (Fm M) fs n (mi M 0 17) b
theorem bsI_sp {M : AM} {b fs n own sz : Int} (hQ : QR M) (hb : 0 ≤ b ∧ b < mi M 86 1) (hn : 1 ≤ n ∧ n ≤ 200) : ∀ (c : Nat) (l s : Int) (N : AM), GB M b s N → 0 ≤ l → l + c ≤ 256 → firstS (fun x => bcX x = sz ∧ oneS M b fs n own x) l (l + c) (bsI b fs n (mi M 0 17) own sz c l N).1 ∧ ∃ s', GB M b s' (bsI b fs n (mi M 0 17) own sz c l N).2 := by
  have h17 := hQ.i.s 0 17 0 8 (by decide)
  intro c
  induction c with
  | zero => intro l s N g h0 h1; exact ⟨Or.inl ⟨rfl, fun x x0 x1 => by omega⟩, s, g⟩
  | succ c ih =>
    intro l s N g h0 h1
    have up : ∀ {r : Int}, ¬ (bcX l = sz ∧ oneS M b fs n own l) → firstS (fun x => bcX x = sz ∧ oneS M b fs n own x) (l + 1) (l + 1 + c) r → firstS (fun x => bcX x = sz ∧ oneS M b fs n own x) l (l + ((c + 1 : Nat) : Int)) r := fun {r} hn hr => by
      rcases hr with ⟨a, d⟩ | ⟨a, d, e⟩
      · refine Or.inl ⟨a, fun x x0 x1 => ?_⟩
        by_cases w : x = l
        · rw [w]; exact hn
        · exact d x (by omega) (by omega)
      · refine Or.inr ⟨⟨by omega, by omega⟩, d, fun x x0 x1 => ?_⟩
        by_cases w : x = l
        · rw [w]; exact hn
        · exact e x (by omega) (by omega)
    by_cases z : z_iand l own ≠ 0 ∨ bcX l ≠ sz
    · rw [show bsI b fs n (mi M 0 17) own sz (c + 1) l N = bsI b fs n (mi M 0 17) own sz c (l + 1) N from if_pos z]
      have q := ih (l + 1) s N g (by omega) (by omega)
      refine ⟨up ?_ q.1, q.2⟩
      rintro ⟨y1, y2, -⟩
      rcases z with z | z
      · exact z y2
      · exact z y1
    · have z1 : z_iand l own = 0 := Decidable.byContradiction (fun w => z (Or.inl w))
      have z2 : bcX l = sz := Decidable.byContradiction (fun w => z (Or.inr w))
      have g1 := g.set (l := l) ⟨h0, by omega⟩
      obtain ⟨v1, v2⟩ := iv_sem (fs := fs) hQ hb hn (mi M 0 17).toNat 0 _ g1 (by omega) (by decide)
      by_cases y : (ivL b fs n (mi M 0 17).toNat 0 (si N 86 49 l)).1 ≠ 0
      · rw [show bsI b fs n (mi M 0 17) own sz (c + 1) l N = (l, (ivL b fs n (mi M 0 17).toNat 0 (si N 86 49 l)).2) from (if_neg z).trans (if_pos y)]
        exact ⟨Or.inr ⟨⟨Int.le_refl _, by omega⟩, ⟨z2, z1, v1.mp y⟩, fun x x0 x1 => by omega⟩, l, v2⟩
      · rw [show bsI b fs n (mi M 0 17) own sz (c + 1) l N = bsI b fs n (mi M 0 17) own sz c (l + 1) (ivL b fs n (mi M 0 17).toNat 0 (si N 86 49 l)).2 from (if_neg z).trans (if_neg y)]
        have q := ih (l + 1) l _ v2 (by omega) (by omega)
        exact ⟨up (fun w => y (v1.mpr w.2.2)) q.1, q.2⟩
/-- the least, or none -/
def leastS (P : Int → Prop) (T r : Int) : Prop := (r = -1 ∧ ∀ x, 0 ≤ x → x < T → ¬ P x) ∨ bestS P T r
theorem leastS.one {P : Int → Prop} {T q q' : Int} (h : leastS P T q) (h' : leastS P T q') : q = q' := by
  rcases h with ⟨a, b⟩ | a <;> rcases h' with ⟨c, d⟩ | c
  · omega
  · exact absurd c.2.1 (b _ c.1.1 c.1.2)
  · exact absurd a.2.1 (d _ a.1.1 a.1.2)
  · exact a.one c
theorem leastS.rw {P Q : Int → Prop} {T U q : Int} (h : leastS P T q) (e : ∀ x, 0 ≤ x → ((x < T ∧ P x) ↔ (x < U ∧ Q x))) : leastS Q U q := by
  rcases h with ⟨a, b⟩ | a
  · exact Or.inl ⟨a, fun x x0 x1 k => by have := (e x x0).mpr ⟨x1, k⟩; exact b x x0 this.1 this.2⟩
  · have q1 := (e q a.1.1).mp ⟨a.1.2, a.2.1⟩
    exact Or.inr ⟨⟨a.1.1, q1.1⟩, q1.2, fun x x0 x1 k => by have := (e x x0).mpr ⟨x1, k⟩; exact a.2.2 x x0 this.1 this.2⟩
theorem first_least {P : Int → Prop} {T z r : Int} (hl : ∀ x, 0 ≤ x → x < T → P x → z ≤ bcX x) (h : firstS (fun x => bcX x = z ∧ P x) 0 T r) : (r < 0 ∧ ∀ x, 0 ≤ x → x < T → P x → z + 1 ≤ bcX x) ∨ (0 ≤ r ∧ bestS P T r) := by
  rcases h with ⟨a, b⟩ | ⟨a, b, d⟩
  · refine Or.inl ⟨by omega, fun x x0 x1 k => ?_⟩
    have q := hl x x0 x1 k
    have : bcX x ≠ z := fun w => b x x0 x1 ⟨w, k⟩
    omega
  · refine Or.inr ⟨a.1, a, b.2, fun x x0 x1 k => ?_⟩
    have q := hl x x0 x1 k
    by_cases u : bcX x = z
    · refine Or.inr ⟨by rw [u]; exact b.1, Decidable.byContradiction (fun v => d x x0 (by omega) ⟨u, k⟩)⟩
    · have b1 := b.1
      exact Or.inl (by omega)
theorem cnt_le {F : Nat} (hF : F ≤ 8) {x : Int} (h0 : 0 ≤ x) (h1 : x < 2 ^ F) : bcX x ≤ F := by
  have k : ∀ F : Fin 9, ∀ n : Fin 256, (n : Nat) < 2 ^ (F : Nat) → bcX ((n : Nat) : Int) ≤ ((F : Nat) : Int) := by decide +kernel
  have p := pow8 hF
  obtain ⟨n, rfl⟩ := Int.eq_ofNat_of_zero_le h0
  have h2 : n < 2 ^ F := by exact_mod_cast h1
  exact k ⟨F, by omega⟩ ⟨n, by omega⟩ h2
theorem bsO_sp {M : AM} {b fs n own F : Int} (hF : 0 ≤ F ∧ F ≤ 8) (hQ : QR M) (hb : 0 ≤ b ∧ b < mi M 86 1) (hn : 1 ≤ n ∧ n ≤ 200) : ∀ (c : Nat) (z s : Int) (N : AM), GB M b s N → z + c = F + 1 → 0 ≤ z → (∀ x, 0 ≤ x → x < 2 ^ F.toNat → oneS M b fs n own x → z ≤ bcX x) → leastS (oneS M b fs n own) (2 ^ F.toNat) (bsO b fs n (mi M 0 17) own (z_ishl 1 F) c z N).1 ∧ ∃ s', GB M b s' (bsO b fs n (mi M 0 17) own (z_ishl 1 F) c z N).2 := by
  have p := pow8 (show F.toNat ≤ 8 by omega)
  have p0 : (0 : Int) < 2 ^ F.toNat := by
    have : ∀ k : Fin 9, (0 : Int) < 2 ^ (k : Nat) := by decide
    exact this ⟨F.toNat, by omega⟩
  intro c
  induction c with
  | zero =>
    intro z s N g hz h0 h
    refine ⟨Or.inl ⟨rfl, fun x x0 x1 k => ?_⟩, s, g⟩
    have a := h x x0 x1 k
    have d := cnt_le (F := F.toNat) (by omega) x0 x1
    omega
  | succ c ih =>
    intro z s N g hz h0 h
    obtain ⟨f1, s', g2⟩ := bsI_sp (own := own) (sz := z) (fs := fs) hQ hb hn (z_ishl 1 F).toNat 0 s N g (by decide) (by rw [pow_shl hF.1 hF.2]; omega)
    rw [show (0 : Int) + (((z_ishl 1 F).toNat : Nat) : Int) = 2 ^ F.toNat by rw [pow_shl hF.1 hF.2]; omega] at f1
    unfold bsO
    rcases first_least h f1 with ⟨a, d⟩ | ⟨a, d⟩
    · rw [if_neg (by omega)]
      exact ih (z + 1) s' _ g2 (by omega) (by omega) d
    · rw [if_pos (by omega)]
      exact ⟨Or.inr d, s', g2⟩
theorem zBi_sp {P : Int → Prop} {fr size : Int} : ∀ (c : Nat) (s : Int), firstS (fun x => bcX x = size ∧ z_iand x (z_ixor fr (-1)) = 0 ∧ P x) s (s + c) (zBi P fr size c s) := by
  intro c
  induction c with
  | zero => intro s; exact Or.inl ⟨rfl, fun x a b => by omega⟩
  | succ c ih =>
    intro s
    by_cases z : bcX s = size ∧ z_iand s (z_ixor fr (-1)) = 0 ∧ P s
    · rw [zBi_y z.1 z.2.1 z.2.2]
      exact Or.inr ⟨⟨by omega, by omega⟩, z, fun x a b => by omega⟩
    · rw [zBi_n z]
      rcases ih (s + 1) with ⟨a, b⟩ | ⟨a, b, d⟩
      · refine Or.inl ⟨a, fun x x0 x1 => ?_⟩
        by_cases y : x = s
        · rw [y]; exact z
        · exact b x (by omega) (by omega)
      · refine Or.inr ⟨⟨by omega, by omega⟩, b, fun x x0 x1 => ?_⟩
        by_cases y : x = s
        · rw [y]; exact z
        · exact d x (by omega) (by omega)
theorem zBo_sp {P : Int → Prop} {fr : Int} : ∀ (c : Nat) (z : Int), z + c = 9 → 0 ≤ z → (∀ x, 0 ≤ x → x < 256 → (z_iand x (z_ixor fr (-1)) = 0 ∧ P x) → z ≤ bcX x) → leastS (fun x => z_iand x (z_ixor fr (-1)) = 0 ∧ P x) 256 (zBo P fr c z) := by
  intro c
  induction c with
  | zero =>
    intro z hz h0 h
    refine Or.inl ⟨rfl, fun x x0 x1 k => ?_⟩
    have a := h x x0 x1 k
    have d := (bcX_r8 x0 x1).2
    omega
  | succ c ih =>
    intro z hz h0 h
    have f1 := zBi_sp (P := P) (fr := fr) (size := z) 256 0
    unfold zBo
    rcases first_least (P := fun x => z_iand x (z_ixor fr (-1)) = 0 ∧ P x) h f1 with ⟨a, d⟩ | ⟨a, d⟩
    · rw [if_neg (by omega)]
      exact ih (z + 1) (by omega) (by omega) d
    · rw [if_pos (by omega)]
      exact Or.inr d
theorem bes_ok {M : AM} {b fs tn what : Int} (hQ : QR M) (hb : 0 ≤ b ∧ b < mi M 86 1) (hc : (0 ≤ fs ∧ z_ishr fs (mi M 0 17) = 0) ∧ 0 ≤ tn ∧ (1 ≤ tn / 1000 ∧ tn / 1000 ≤ 9) ∧ (1 ≤ tn % 1000 ∧ tn % 1000 ≤ 200) ∧ 0 ≤ what ∧ what ≤ 1) : (besR M b fs tn what).1 = beA (zBe M b fs tn) what tn ∧ RI (besR M b fs tn what).2 ∧ FQ M (besR M b fs tn what).2 := by
  have e17 : mi M 0 17 = mi M 86 21 := hQ.2.2.1.1
  have h16 := hQ.i.s 86 1 0 6 (by decide)
  have mr := many_r hQ.i b
  have e : besR M b fs tn what = (beA (beE M b fs tn).1 what tn, aiM (beE M b fs tn).2) := if_pos ⟨hb, by rw [← e17]; exact hc.1, hc.2⟩
  rw [e]
  have k := aiM_k M
  have v : ∀ k, k ≠ 48 → mi (si (aiM M) 86 48 b) 86 k = mi (aiM M) 86 k := fun k hk => mi_si_ne _ b (by omega)
  have g : GB M b (mi (si (aiM M) 86 48 b) 86 49) (si (aiM M) 86 48 b) := ⟨hQ.1.1.1.asIs.own (k := 48) b (by decide) (by decide), (FQ.rf M).asIs.own (by omega) _, by rw [v 43 (by decide)]; exact k.1, by rw [v 46 (by decide)]; exact k.2.1, mi_si_same _ _ _ (by omega) (by omega), rfl⟩
  obtain ⟨s1, s', g2⟩ := bsO_sp (fs := fs) (own := orL (ownF M b) (manyX M b).toNat) (F := manyX M b) ⟨mr.1, mr.2.1⟩ hQ hb hc.2.2.2.1 (manyX M b + 1).toNat 0 _ _ g (by omega) (by decide) (fun x x0 x1 _ => by
    have p := pow8 (show (manyX M b).toNat ≤ 8 by omega)
    exact (bcX_r8 x0 (by omega)).1)
  have s2 := zBo_sp (P := fun y => outl (Wst M b y) (Fm M) fs (tn % 1000) (mi M 0 17) b) (fr := freC M b) 9 0 (by decide) (by decide) (fun x x0 x1 _ => (bcX_r8 x0 x1).1)
  have q : (beE M b fs tn).1 = zBe M b fs tn := by
    unfold beE zBe
    rw [← e17]
    refine leastS.one (leastS.rw s1 (fun x x0 => ?_)) s2
    have fi := free_iff (l := x) hQ hb x0
    constructor
    · rintro ⟨a, c, d⟩
      have w := fi.mpr ⟨a, c⟩
      exact ⟨w.1, w.2, d⟩
    · rintro ⟨a, c, d⟩
      have w := fi.mp ⟨a, c⟩
      exact ⟨w.1, w.2, d⟩
  have r2 : RI (beE M b fs tn).2 ∧ FQ M (beE M b fs tn).2 := by
    unfold beE
    rw [← e17]
    exact ⟨g2.1, g2.2.1⟩
  rw [q]
  exact ⟨rfl, r2.1.asIs, r2.2.asIs⟩
theorem zBe_cu {m M : AM} {b fs tn : Int} (h : QR m) (hc : CU m M) (hb : 0 ≤ b ∧ b < mi m 86 1) : zBe M b fs tn = zBe m b fs tn := by
  have K := (h.2.1.2 b hb.1 hb.2).1
  have ep : pg M b = pg m b := hc.1.pge K.2.1.1
  have c : ∀ j, mi M (pg m b) j = mi m (pg m b) j := fun j => hc.1.2.2.1 _ j (nqq K.2.1.2 j)
  have f17 : mi M 0 17 = mi m 0 17 := hc.1.2.2.1 0 17 (by unfold NQ; omega)
  have eo : ownC M b = ownC m b := by
    unfold ownC
    rw [ep, c]
  have ef : freC M b = freC m b := by
    unfold freC
    rw [eo, ep, c]
  have ew : ∀ y, Wst M b y = Wst m b y := fun y => by
    unfold Wst
    rw [eo, hc.1.wn]
  unfold zBe
  rw [ef, f17]
  have e : (fun y => outl (Wst M b y) (Fm M) fs (tn % 1000) (mi m 0 17) b) = fun y => outl (Wst m b y) (Fm m) fs (tn % 1000) (mi m 0 17) b := by
    funext y
    rw [ew y]
    exact propext (outl_cg (fun f f0 f1 => Fm_cu h hc ⟨f0, f1⟩))
  rw [e]
theorem ag_best {G : QW} {m : AM} {b fs tn what : Int} (h : Inv m) (hb1 : -2147483648 ≤ b) (hb2 : b < 2147483648) (hs1 : -2147483648 ≤ fs) (hs2 : fs < 2147483648) (ht1 : -2147483648 ≤ tn) (ht2 : tn < 2147483648) (hw1 : -2147483648 ≤ what) (hw2 : what < 2147483648) : AG G mX11_best mX12_best 8 10 0 0 [vI b, vI fs, vI tn, vI what] m := by
  have e16 : mi m 0 16 = mi m 86 1 := h.1.2.1.1
  have e17 : mi m 0 17 = mi m 86 21 := h.1.2.2.1.1
  refine (cr_best h.1 h.k0 hb1 hb2 hs1 hs2 ht1 ht2 hw1 hw2).mono (fun r N2 q => ?_)
  by_cases c : (0 ≤ b ∧ b < mi m 0 16) ∧ (0 ≤ fs ∧ z_ishr fs (mi m 0 17) = 0) ∧ 0 ≤ tn ∧ (0 ≤ what ∧ what ≤ 1) ∧ (1 ≤ tn / 1000 ∧ tn / 1000 ≤ 9) ∧ 1 ≤ tn % 1000 ∧ tn % 1000 ≤ 200
  · obtain ⟨hc, hQ, e2⟩ := q.1 c
    refine ⟨_, e2, rfl, hQ.1.1.1.1.1.1, (ct_X12_best hQ.1.1.1 hb1 hb2 hs1 hs2 ht1 ht2 hw1 hw2).mono (fun r2 m2 p => ?_)⟩
    have f17 : mi N2 0 17 = mi m 0 17 := hc.1.2.2.1 0 17 (by unfold NQ; omega)
    have f1 : mi N2 86 1 = mi m 86 1 := hc.2.1 86 1 (by decide) (by decide)
    have hb : 0 ≤ b ∧ b < mi m 86 1 := by rw [← e16]; exact c.1
    obtain ⟨s1, s2, s3⟩ := bes_ok (b := b) (fs := fs) (tn := tn) (what := what) hQ (by rw [f1]; exact hb) ⟨by rw [f17]; exact c.2.1, c.2.2.1, c.2.2.2.2.1, c.2.2.2.2.2, c.2.2.2.1⟩
    rw [zBe_cu h.1 hc hb] at s1
    exact ⟨by rw [p.1, s1], (h.both hc hQ s2 s3).same p.2⟩
  · obtain ⟨e2, e1⟩ := q.2 c
    rw [e1]
    refine ⟨_, e2, rfl, h.1.1.1.1.1.1.1, (ct_X12_best h.1.1.1.1 hb1 hb2 hs1 hs2 ht1 ht2 hw1 hw2).mono (fun r2 m2 p => ?_)⟩
    have e : besR m b fs tn what = (-1, m) := if_neg (by
      rw [← e16, ← e17]
      exact fun w => c ⟨w.1, w.2.1, w.2.2.1, w.2.2.2.2.2, w.2.2.2.1, w.2.2.2.2.1⟩)
    rw [e] at p
    exact ⟨p.1, h.same p.2⟩

/-! all(): beginnings in their order -/
def loS (m : AM) (k j : Int) : Int := mi m 123 ((3 * k) + j).toNat
def hiS (m : AM) (k j : Int) : Int := mi m 124 ((3 * k) + j).toNat
def inS (m : AM) (k a b c : Int) : Prop := (loS m k 0 ≤ a ∧ a ≤ hiS m k 0) ∧ (loS m k 1 ≤ b ∧ b ≤ hiS m k 1) ∧ loS m k 2 ≤ c ∧ c ≤ hiS m k 2
def lxS (a b c a' b' c' : Int) : Prop := a < a' ∨ (a = a' ∧ (b < b' ∨ (b = b' ∧ c < c')))
def ixS (m : AM) (k a b c : Int) : Int := ((a - loS m k 0) * wdX m ((3 * k) + 1) + (b - loS m k 1)) * wdX m ((3 * k) + 2) + (c - loS m k 2)
def DoneS (m : AM) (k f n a b c : Int) : Prop := ∀ a' b' c', inS m k a' b' c' → lxS a' b' c' a b c → ¬ gA m f n a' b' c'
theorem wd_e (m : AM) (k j : Int) : wdX m ((3 * k) + j) = hiS m k j - loS m k j + 1 := rfl
theorem many_e (m : AM) (k : Int) : manyS m k = (wdX m ((3 * k) + 0) * wdX m ((3 * k) + 1)) * wdX m ((3 * k) + 2) := by
  unfold manyS
  rw [Int.one_mul, Int.add_zero, show (3 * k) + 1 + 1 = (3 * k) + 2 by omega]
theorem ix_lt {m : AM} {k a b c : Int} (h : inS m k a b c) : 0 ≤ ixS m k a b c ∧ ixS m k a b c < manyS m k := by
  have w0 := wd_e m k 0
  have w1 := wd_e m k 1
  have w2 := wd_e m k 2
  obtain ⟨h0, h1, h2⟩ := h
  rw [many_e]
  unfold ixS
  generalize wdX m ((3 * k) + 0) = W0 at *
  generalize wdX m ((3 * k) + 1) = W1 at *
  generalize wdX m ((3 * k) + 2) = W2 at *
  generalize hA : a - loS m k 0 = A at *
  generalize hB : b - loS m k 1 = B at *
  generalize hC : c - loS m k 2 = C at *
  have p1 : 0 ≤ A * W1 := Int.mul_nonneg (by omega) (by omega)
  have p2 : 0 ≤ (A * W1 + B) * W2 := Int.mul_nonneg (by omega) (by omega)
  have q1 : A * W1 ≤ (W0 - 1) * W1 := Int.mul_le_mul_of_nonneg_right (by omega) (by omega)
  have q2 : (A * W1 + B) * W2 ≤ (W0 * W1 - 1) * W2 := Int.mul_le_mul_of_nonneg_right (by rw [Int.sub_mul, Int.one_mul] at q1; omega) (by omega)
  rw [Int.sub_mul, Int.one_mul] at q2
  omega
theorem lo_k {m N : AM} (h4 : K4 m) (hq : QU m N) {k j : Int} (hk : 0 ≤ k ∧ k ≤ 1) (hj : 0 ≤ j ∧ j ≤ 2) : mi N 13 ((k * 3) + j).toNat = loS m k j ∧ mi N 14 ((k * 3) + j).toNat = hiS m k j := by
  have q := h4 ((k * 3) + j).toNat (by omega)
  unfold loS hiS
  rw [show (3 * k) + j = (k * 3) + j by omega, ← q.1, ← q.2]
  exact ⟨hq.2.2.1 13 _ (by unfold NQ; omega), hq.2.2.1 14 _ (by unfold NQ; omega)⟩
theorem lo_r {m : AM} (hI : IM m) (k j : Int) : (-99999 ≤ loS m k j ∧ loS m k j ≤ 99999) ∧ -99999 ≤ hiS m k j ∧ hiS m k j ≤ 99999 := ⟨hI.a 123 (-99999) 99999 (by decide) _, hI.a 124 (-99999) 99999 (by decide) _⟩
/-- cells 49 written -/
theorem AK.put {m N K : AM} {f : Int} (h : AK m f N) (e : K.2 = N.2) (ec : ∀ c j : Nat, c ≠ 49 → mi K c j = mi N c j) (h49 : ∀ j, -99999 ≤ mi K 49 j ∧ mi K 49 j ≤ 99999) : AK m f K := by
  have z := h.2.1.mv (N := K) e (fun c j hc => ec c j (by omega)) h49 (fun j => by rw [ec _ _ (by decide)]; exact h.2.1.i.a 50 (-999) 999 (by decide) j) (fun j => by rw [ec _ _ (by decide)]; exact h.2.1.i.a 51 0 99999 (by decide) j) (fun j => by rw [ec _ _ (by decide)]; exact h.2.1.i.a 57 (-99999) 99999 (by decide) j) (by rw [ec _ _ (by decide)]; exact h.2.1.i.s 0 19 0 1 (by decide))
  exact ⟨h.1.mv e (fun c j hc => ec c j (by omega)), z.1, fun j hj => by rw [ec _ _ (by decide), ec _ _ (by decide), ec _ _ (by decide)]; exact h.2.2 j hj⟩
theorem AK.r49 {m N : AM} {f : Int} (h : AK m f N) (j : Nat) : -99999 ≤ mi N 49 j ∧ mi N 49 j ≤ 99999 := h.2.1.2.2.2.2.2.2.2.2.1 j
theorem si49 {N : AM} {v : Int} {i : Nat} (hv : -99999 ≤ v ∧ v ≤ 99999) : (∀ c j : Nat, c ≠ 49 → mi (si N 49 i v) c j = mi N c j) ∧ ∀ j, mi (si N 49 i v) 49 j = if j = i then v else mi N 49 j := by
  refine ⟨fun c j hc => mi_si_ne _ _ (fun q => hc q.1), fun j => ?_⟩
  rw [mi_si, zi_toInt (by omega) (by omega)]
  simp only [true_and]
/-- the next beginning is the next one in order -/
theorem nx_spec {m N : AM} {k f : Int} (hQ : QR m) (h4 : K4 m) (hk : 0 ≤ k ∧ k ≤ 1) (h : AK m f N) (hs : inS m k (mi N 49 0) (mi N 49 1) (mi N 49 2)) :
    ((nxM N k).1 = 1 ∧ AK m f (nxM N k).2 ∧ inS m k (mi (nxM N k).2 49 0) (mi (nxM N k).2 49 1) (mi (nxM N k).2 49 2) ∧ ixS m k (mi (nxM N k).2 49 0) (mi (nxM N k).2 49 1) (mi (nxM N k).2 49 2) = ixS m k (mi N 49 0) (mi N 49 1) (mi N 49 2) + 1 ∧ ∀ a b c, inS m k a b c → lxS a b c (mi (nxM N k).2 49 0) (mi (nxM N k).2 49 1) (mi (nxM N k).2 49 2) → lxS a b c (mi N 49 0) (mi N 49 1) (mi N 49 2) ∨ (a = mi N 49 0 ∧ b = mi N 49 1 ∧ c = mi N 49 2)) ∨
    ((nxM N k).1 = 0 ∧ AK m f (nxM N k).2 ∧ ∀ a b c, inS m k a b c → lxS a b c (mi N 49 0) (mi N 49 1) (mi N 49 2) ∨ (a = mi N 49 0 ∧ b = mi N 49 1 ∧ c = mi N 49 2)) := by
  have l0 := lo_k h4 h.1.1 hk (j := 0) (by decide)
  have l1 := lo_k h4 h.1.1 hk (j := 1) (by decide)
  have l2 := lo_k h4 h.1.1 hk (j := 2) (by decide)
  have r0 := lo_r hQ.i k 0
  have r1 := lo_r hQ.i k 1
  have r2 := lo_r hQ.i k 2
  have s0 := h.r49 0
  have s1 := h.r49 1
  have s2 := h.r49 2
  have w1 := wd_e m k 1
  have w2 := wd_e m k 2
  obtain ⟨i0, i1, i2⟩ := hs
  have ix : ∀ a b c, ixS m k a b c = ((a - loS m k 0) * wdX m ((3 * k) + 1) + (b - loS m k 1)) * wdX m ((3 * k) + 2) + (c - loS m k 2) := fun _ _ _ => rfl
  by_cases c2 : mi N 49 2 < hiS m k 2
  · left
    have e : nxM N k = (1, si N 49 2 (mi N 49 2 + 1)) := if_pos (by rw [l2.2]; exact c2)
    rw [e]
    have g := si49 (N := N) (v := mi N 49 2 + 1) (i := 2) (by omega)
    have A := h.put (K := si N 49 2 (mi N 49 2 + 1)) rfl g.1 (fun j => by rw [g.2]; split; omega; exact h.r49 j)
    dsimp only
    rw [g.2 0, g.2 1, g.2 2, if_neg (by decide), if_neg (by decide), if_pos rfl]
    refine ⟨rfl, A, ⟨i0, i1, by omega, by omega⟩, by rw [ix, ix]; omega, fun a b c hi hl => ?_⟩
    unfold lxS at *
    omega
  · by_cases c1 : mi N 49 1 < hiS m k 1
    · left
      have e : nxM N k = (1, si (si N 49 2 (loS m k 2)) 49 1 (mi N 49 1 + 1)) := by
        unfold nxM
        rw [if_neg (by rw [l2.2]; exact c2), if_pos (by rw [l1.2]; exact c1), l2.1]
        rfl
      rw [e]
      have g := si49 (N := N) (v := loS m k 2) (i := 2) (by omega)
      have g' := si49 (N := si N 49 2 (loS m k 2)) (v := mi N 49 1 + 1) (i := 1) (by omega)
      have A := h.put (K := si (si N 49 2 (loS m k 2)) 49 1 (mi N 49 1 + 1)) rfl (fun c j hc => (g'.1 c j hc).trans (g.1 c j hc)) (fun j => by rw [g'.2, g.2]; split; omega; split; omega; exact h.r49 j)
      dsimp only
      rw [g'.2 0, g'.2 1, g'.2 2, g.2 0, g.2 2, if_neg (by decide), if_neg (by decide), if_pos rfl, if_neg (by decide), if_pos rfl]
      refine ⟨rfl, A, ⟨i0, by omega, by omega⟩, ?_, fun a b c hi hl => ?_⟩
      · rw [ix, ix]
        have z : ∀ X : Int, (X + 1) * wdX m ((3 * k) + 2) = X * wdX m ((3 * k) + 2) + wdX m ((3 * k) + 2) := fun X => by rw [Int.add_mul, Int.one_mul]
        rw [show (mi N 49 0 - loS m k 0) * wdX m ((3 * k) + 1) + (mi N 49 1 + 1 - loS m k 1) = ((mi N 49 0 - loS m k 0) * wdX m ((3 * k) + 1) + (mi N 49 1 - loS m k 1)) + 1 by omega, z]
        omega
      · unfold lxS inS at *
        omega
    · by_cases c0 : mi N 49 0 < hiS m k 0
      · left
        have e : nxM N k = (1, si (si (si N 49 2 (loS m k 2)) 49 1 (loS m k 1)) 49 0 (mi N 49 0 + 1)) := by
          unfold nxM
          rw [if_neg (by rw [l2.2]; exact c2), if_neg (by rw [l1.2]; exact c1), if_pos (by rw [l0.2]; exact c0), l2.1, l1.1]
          rfl
        rw [e]
        have g := si49 (N := N) (v := loS m k 2) (i := 2) (by omega)
        have g' := si49 (N := si N 49 2 (loS m k 2)) (v := loS m k 1) (i := 1) (by omega)
        have g'' := si49 (N := si (si N 49 2 (loS m k 2)) 49 1 (loS m k 1)) (v := mi N 49 0 + 1) (i := 0) (by omega)
        have A := h.put (K := si (si (si N 49 2 (loS m k 2)) 49 1 (loS m k 1)) 49 0 (mi N 49 0 + 1)) rfl (fun c j hc => ((g''.1 c j hc).trans (g'.1 c j hc)).trans (g.1 c j hc)) (fun j => by rw [g''.2, g'.2, g.2]; split; omega; split; omega; split; omega; exact h.r49 j)
        dsimp only
        rw [g''.2 0, g''.2 1, g''.2 2, g'.2 1, g'.2 2, g.2 2, if_pos rfl, if_neg (by decide), if_pos rfl, if_neg (by decide), if_neg (by decide), if_pos rfl]
        refine ⟨rfl, A, ⟨by omega, by omega, by omega⟩, ?_, fun a b c hi hl => ?_⟩
        · rw [ix, ix]
          have z : ∀ X : Int, (X + 1) * wdX m ((3 * k) + 2) = X * wdX m ((3 * k) + 2) + wdX m ((3 * k) + 2) := fun X => by rw [Int.add_mul, Int.one_mul]
          have y : (mi N 49 0 + 1 - loS m k 0) * wdX m ((3 * k) + 1) = (mi N 49 0 - loS m k 0) * wdX m ((3 * k) + 1) + wdX m ((3 * k) + 1) := by rw [show mi N 49 0 + 1 - loS m k 0 = (mi N 49 0 - loS m k 0) + 1 by omega, Int.add_mul, Int.one_mul]
          rw [y, show (mi N 49 0 - loS m k 0) * wdX m ((3 * k) + 1) + wdX m ((3 * k) + 1) + (loS m k 1 - loS m k 1) = ((mi N 49 0 - loS m k 0) * wdX m ((3 * k) + 1) + (mi N 49 1 - loS m k 1)) + 1 by omega, z]
          omega
        · unfold lxS inS at *
          omega
      · right
        have e : nxM N k = (0, si (si (si N 49 2 (loS m k 2)) 49 1 (loS m k 1)) 49 0 (loS m k 0)) := by
          unfold nxM
          rw [if_neg (by rw [l2.2]; exact c2), if_neg (by rw [l1.2]; exact c1), if_neg (by rw [l0.2]; exact c0), l2.1, l1.1, l0.1]
          rfl
        rw [e]
        have g := si49 (N := N) (v := loS m k 2) (i := 2) (by omega)
        have g' := si49 (N := si N 49 2 (loS m k 2)) (v := loS m k 1) (i := 1) (by omega)
        have g'' := si49 (N := si (si N 49 2 (loS m k 2)) 49 1 (loS m k 1)) (v := loS m k 0) (i := 0) (by omega)
        have A := h.put (K := si (si (si N 49 2 (loS m k 2)) 49 1 (loS m k 1)) 49 0 (loS m k 0)) rfl (fun c j hc => ((g''.1 c j hc).trans (g'.1 c j hc)).trans (g.1 c j hc)) (fun j => by rw [g''.2, g'.2, g.2]; split; omega; split; omega; split; omega; exact h.r49 j)
        refine ⟨rfl, A, fun a b c hi => ?_⟩
        unfold lxS inS at *
        omega
/-- a beginning that differs from the first ones only in what isn't read ends as one ahead of it -/
theorem skip_ok {m N : AM} {k f n : Int} (hQ : QR m) (h3 : K3 m) (h4 : K4 m) (hk : 0 ≤ k ∧ k ≤ 1) (h : AK m f N) (hs : inS m k (mi N 49 0) (mi N 49 1) (mi N 49 2)) (hD : DoneS m k f n (mi N 49 0) (mi N 49 1) (mi N 49 2)) (ht : ¬ tlP N k (faC m (mi m 0 16).toNat)) : ¬ gA m f n (mi N 49 0) (mi N 49 1) (mi N 49 2) := by
  have l : ∀ j : Nat, j < 3 → mi N 13 ((k * 3) + j).toNat = loS m k j := fun j hj => (lo_k h4 h.1.1 hk (j := (j : Int)) (by omega)).1
  have hx : ∃ j : Nat, j < 3 ∧ bt (faC m (mi m 0 16).toNat) j = false ∧ mi N 49 j ≠ loS m k j := Classical.byContradiction fun z => ht (fun j hj hb => Classical.byContradiction fun y => z ⟨j, hj, hb, fun q => y (by rw [l j hj]; exact q)⟩)
  intro hg
  obtain ⟨j, hj, hb, hne⟩ := hx
  obtain ⟨i0, i1, i2⟩ := hs
  have same : ∀ a b c, (∀ i : Nat, i < 3 → i ≠ j → (if (i : Int) = 0 then a else if (i : Int) = 1 then b else c) = mi N 49 i) → (gA m f n a b c ↔ gA m f n (mi N 49 0) (mi N 49 1) (mi N 49 2)) := by
    intro a b c hh
    unfold gA
    refine zDie_rd hQ.wok (fun t b' hb0 hb1 q hr => ?_)
    have qr := rdF_r hQ.wok ⟨hb0, hb1⟩ hr
    have bit := read_bit hQ h3 ⟨hb0, by rw [hQ.2.1.1]; exact hb1⟩ hr
    have nj : q.toNat ≠ j := fun z => by rw [z, hb] at bit; exact absurd bit (by decide)
    have g := hh q.toNat (by omega) nj
    have g2 : (if ((q.toNat : Nat) : Int) = 0 then mi N 49 0 else if ((q.toNat : Nat) : Int) = 1 then mi N 49 1 else mi N 49 2) = mi N 49 q.toNat := by
      have : q = 0 ∨ q = 1 ∨ q = 2 := by omega
      rcases this with rfl | rfl | rfl <;> rfl
    unfold fbF
    rw [g, g2]
  have hj3 : j = 0 ∨ j = 1 ∨ j = 2 := by omega
  rcases hj3 with rfl | rfl | rfl
  · have z := (same (loS m k 0) (mi N 49 1) (mi N 49 2) (fun i hi hn => by
      have hh : i = 1 ∨ i = 2 := by omega
      rcases hh with rfl | rfl <;> rfl)).mpr hg
    refine hD _ _ _ ⟨by have : loS m k ((0 : Nat) : Int) = loS m k 0 := rfl; omega, i1, i2⟩ (Or.inl (by have : loS m k ((0 : Nat) : Int) = loS m k 0 := rfl; omega)) z
  · have z := (same (mi N 49 0) (loS m k 1) (mi N 49 2) (fun i hi hn => by
      have hh : i = 0 ∨ i = 2 := by omega
      rcases hh with rfl | rfl <;> rfl)).mpr hg
    refine hD _ _ _ ⟨i0, by have : loS m k ((1 : Nat) : Int) = loS m k 1 := rfl; omega, i2⟩ (Or.inr ⟨rfl, Or.inl (by have : loS m k ((1 : Nat) : Int) = loS m k 1 := rfl; omega)⟩) z
  · have z := (same (mi N 49 0) (mi N 49 1) (loS m k 2) (fun i hi hn => by
      have hh : i = 0 ∨ i = 1 := by omega
      rcases hh with rfl | rfl <;> rfl)).mpr hg
    refine hD _ _ _ ⟨i0, i1, by have : loS m k ((2 : Nat) : Int) = loS m k 2 := rfl; omega⟩ (Or.inr ⟨rfl, Or.inr ⟨rfl, by have : loS m k ((2 : Nat) : Int) = loS m k 2 := rfl; omega⟩⟩) z
/-- the reference finds the first beginning -/
theorem alE_sem {m : AM} (hQ : QR m) {k f n : Int} (hk : 0 ≤ k ∧ k ≤ 1) (hn0 : 0 ≤ n) (hn : n ≤ 200) : ((alE m k f n).1 = 0 ∧ (∀ a b c, inS m k a b c → ¬ gA m f n a b c) ∧ GS m (alE m k f n).2.2) ∨ ((alE m k f n).1 ≠ 0 ∧ ∃ a b c, inS m k a b c ∧ gA m f n a b c ∧ DoneS m k f n a b c ∧ (alE m k f n).2.1 = ixS m k a b c ∧ ∃ N', GS m N' ∧ (alE m k f n).2.2 = finM N' a b c) := by
  have w0 := wd_e m k 0
  have w1 := wd_e m k 1
  have w2 := wd_e m k 2
  rw [Int.add_zero] at w0
  have o : ∀ j : Int, 0 ≤ j → j ≤ 2 → loS m k j ≤ hiS m k j := fun j h0 h2 => hQ.1.1.2.2 ((3 * k) + j) (by omega) (by omega)
  have o0 := o 0 (by decide) (by decide)
  have o1 := o 1 (by decide) (by decide)
  have o2 := o 2 (by decide) (by decide)
  have kk := aiM_k m
  have G0 : GS m (aiM m) := ⟨hQ.1.1.1.asIs, (FQ.rf m).asIs, kk.1, kk.2.1, kk.2.2⟩
  have e : alE m k f n = alA f n (wdX m ((3 * k) + 1)) (loS m k 1) (wdX m ((3 * k) + 2)) (loS m k 2) (wdX m (3 * k)).toNat (loS m k 0) 0 (aiM m) := by
    unfold alE loS
    rw [Int.add_zero]
  rw [e]
  rcases alA_sem hQ.1.1 (f := f) (l1 := loS m k 1) (l2 := loS m k 2) (by omega : 0 ≤ wdX m ((3 * k) + 1)) (by omega : 0 ≤ wdX m ((3 * k) + 2)) hn0 hn (wdX m (3 * k)).toNat (loS m k 0) 0 (aiM m) G0 with ⟨a1, a2, a3⟩ | ⟨a1, y, j, i, b1, b2, b3, b4, N', b5, b6⟩
  · refine Or.inl ⟨a1, fun a b c hi => ?_, a3⟩
    obtain ⟨i0, i1, i2⟩ := hi
    have q := a2 (a - loS m k 0).toNat (b - loS m k 1).toNat (c - loS m k 2).toNat (by omega) (by omega) (by omega)
    rw [show loS m k 0 + (((a - loS m k 0).toNat : Nat) : Int) = a by omega, show loS m k 1 + (((b - loS m k 1).toNat : Nat) : Int) = b by omega, show loS m k 2 + (((c - loS m k 2).toNat : Nat) : Int) = c by omega] at q
    exact q
  · refine Or.inr ⟨a1, loS m k 0 + y, loS m k 1 + j, loS m k 2 + i, ⟨by omega, by omega, by omega⟩, b2, fun a b c hi hl => ?_, ?_, N', b5, b6⟩
    · obtain ⟨i0, i1, i2⟩ := hi
      have q := b3 (a - loS m k 0).toNat (b - loS m k 1).toNat (c - loS m k 2).toNat (by omega) (by omega) (by unfold lxS at hl; omega)
      rw [show loS m k 0 + (((a - loS m k 0).toNat : Nat) : Int) = a by omega, show loS m k 1 + (((b - loS m k 1).toNat : Nat) : Int) = b by omega, show loS m k 2 + (((c - loS m k 2).toNat : Nat) : Int) = c by omega] at q
      exact q
    · rw [b4]
      unfold ixS
      rw [show loS m k 0 + (y : Int) - loS m k 0 = y by omega, show loS m k 1 + (j : Int) - loS m k 1 = j by omega, show loS m k 2 + (i : Int) - loS m k 2 = i by omega]
      omega
/-- there is only one first beginning -/
theorem first_one {m : AM} {k f n a b c a' b' c' : Int} (h1 : inS m k a b c) (h2 : gA m f n a b c) (h3 : DoneS m k f n a b c) (g1 : inS m k a' b' c') (g2 : gA m f n a' b' c') (g3 : DoneS m k f n a' b' c') : a = a' ∧ b = b' ∧ c = c' := by
  have p : ¬ lxS a b c a' b' c' := fun z => g3 _ _ _ h1 z h2
  have q : ¬ lxS a' b' c' a b c := fun z => h3 _ _ _ g1 z g2
  unfold lxS at *
  omega

theorem orL_cg {f g : Nat → Int} : ∀ n : Nat, (∀ j, j < n → f j = g j) → orL f n = orL g n := by
  intro n
  induction n with
  | zero => intro _; rfl
  | succ n ih =>
    intro h
    unfold orL
    rw [ih (fun j hj => h j (by omega)), h n (by omega)]
/-! the spans, and papers -/
theorem QU.enx {m N : AM} (h : QU m N) (k b l : Int) : enX N k b l = enX m k b l := by
  have e : ∀ c, (87 ≤ c ∧ c ≤ 105) ∨ c = 123 ∨ c = 124 → mi N c = mi m c := fun c hc => funext (fun j => h.2.2.1 c j (by unfold NQ; omega))
  have ec : cdX N = cdX m := by
    unfold cdX
    rw [e 98 (by decide), e 99 (by decide)]
  have er : ∀ b, rdE N k b = rdE m k b := fun b => by
    funext w v
    unfold rdE
    rw [e 88 (by decide), e 123 (by decide), e 124 (by decide)]
    rfl
  unfold enX
  rw [ec, er, e 96 (by decide), e 97 (by decide)]
theorem QU.ovf {m N : AM} (h : QU m N) (k b l : Int) : ovF N k b l = ovF m k b l := by
  have e : ∀ c, (87 ≤ c ∧ c ≤ 105) ∨ c = 123 ∨ c = 124 → mi N c = mi m c := fun c hc => funext (fun j => h.2.2.1 c j (by unfold NQ; omega))
  have em : ∀ x y, mostX N x y = mostX m x y := fun x y => by
    unfold mostX
    rw [e 94 (by decide), e 88 (by decide)]
    rfl
  unfold ovF
  rw [h.enx, e 93 (by decide), em]
theorem QU.lki {m N : AM} (h : QU m N) (k i b : Int) : ∀ (x : Nat) (l n : Int), lkI N k i b x l n = lkI m k i b x l n := by
  intro x
  induction x with
  | zero => intro l n; rfl
  | succ x ih =>
    intro l n
    simp only [lkI, h.ovf, ih]
theorem QU.lko {m N : AM} (h : QU m N) (k i : Int) : ∀ (x : Nat) (b n : Int), lkO N k i x b n = lkO m k i x b n := by
  have e : mi N 91 = mi m 91 := funext (fun j => h.2.2.1 91 j (by unfold NQ; omega))
  intro x
  induction x with
  | zero => intro b n; rfl
  | succ x ih =>
    intro b n
    simp only [lkO, h.lki, ih, e]
theorem QU.gapr {m N : AM} (h : QU m N) (k b : Int) : gapR N k b = gapR m k b := by
  have e1 : mi N 86 1 = mi m 86 1 := h.2.2.1 86 1 (by unfold NQ; omega)
  unfold gapR
  rw [e1, h.gap]
theorem QU.bour {m N : AM} (h : QU m N) (k b l w : Int) : bouR N k b l w = bouR m k b l w := by
  have e1 : mi N 86 1 = mi m 86 1 := h.2.2.1 86 1 (by unfold NQ; omega)
  have e : mi N 91 = mi m 91 := funext (fun j => h.2.2.1 91 j (by unfold NQ; omega))
  unfold bouR
  rw [e1, e, h.enx]
theorem QU.likr {m N : AM} (h : QU m N) (k i : Int) : likR N k i = likR m k i := by
  have e1 : mi N 86 1 = mi m 86 1 := h.2.2.1 86 1 (by unfold NQ; omega)
  unfold likR
  rw [e1, h.lko]
theorem ag_gaps {G : QW} {m : AM} {k b : Int} (h : Inv m) (hk1 : -2147483648 ≤ k) (hk2 : k < 2147483648) (hb1 : -2147483648 ≤ b) (hb2 : b < 2147483648) : AG G mX11_gaps mX12_gaps 6 5 0 0 [vI k, vI b] m :=
  AG.cu (cr_gaps h.1 h.k4 hk1 hk2 hb1 hb2) (fun r N q => by
    have i := h.cu (q.1.qr h.1) q.1.cu
    exact ⟨q.2, i, ct_X12_gaps i.1.1.1 hk1 hk2 hb1 hb2, fun r2 N2 p => ⟨by rw [p.1, q.1.cu.1.gapr], i.same p.2⟩⟩)
theorem ag_bounds {G : QW} {m : AM} {k b l w : Int} (h : Inv m) (hk1 : -2147483648 ≤ k) (hk2 : k < 2147483648) (hb1 : -2147483648 ≤ b) (hb2 : b < 2147483648) (hl1 : -2147483648 ≤ l) (hl2 : l < 2147483648) (hw1 : -2147483648 ≤ w) (hw2 : w < 2147483648) : AG G mX11_bounds mX12_bounds 6 3 0 0 [vI k, vI b, vI l, vI w] m :=
  AG.cu (cr_bounds h.1 h.k4 h.1.hx hk1 hk2 hb1 hb2 hl1 hl2 hw1 hw2) (fun r N q => by
    have i := h.cu (q.1.qr h.1) q.1.cu
    exact ⟨q.2, i, ct_X12_bounds i.1.1.1 hk1 hk2 hb1 hb2 hl1 hl2 hw1 hw2, fun r2 N2 p => ⟨by rw [p.1, q.1.cu.1.bour], i.same p.2⟩⟩)
theorem ag_like {G : QW} {m : AM} {k i : Int} (h : Inv m) (hk1 : -2147483648 ≤ k) (hk2 : k < 2147483648) (hi1 : -2147483648 ≤ i) (hi2 : i < 2147483648) : AG G mX11_like mX12_like 6 4 0 0 [vI k, vI i] m :=
  AG.cu (cr_like h.1 h.k4 hk1 hk2 hi1 hi2) (fun r N q => by
    have j := h.cu (q.1.qr h.1) q.1.cu
    exact ⟨q.2, j, ct_X12_like j.1.1.1 hk1 hk2 hi1 hi2, fun r2 N2 p => ⟨by rw [p.1, q.1.cu.1.likr], j.same p.2⟩⟩)
theorem QU.hp {m N : AM} (h : QU m N) (hQ : QR m) (h6 : K6 m) (k : Int) {p : Nat} (hp : (p : Int) < mi m 86 70) : hP N k p ↔ hP m k p := by
  have h70 := hQ.i.s 86 70 0 20 (by decide)
  have e : mi N 10 p = mi m 10 p := h.lemK (by decide)
  unfold hP
  rw [e]
  refine ⟨fun q j hj g => ?_, fun q j hj g => ?_⟩
  · have l := al_le hQ h6 hj (p + 1) p (by omega) hp g
    rw [← h.so hQ k (p := (j : Int)) (by omega)]
    exact q j hj g
  · have l := al_le hQ h6 hj (p + 1) p (by omega) hp g
    rw [h.so hQ k (p := (j : Int)) (by omega)]
    exact q j hj g
theorem holR_keep {m : AM} (h : Inv m) (k p : Int) : Inv (holR m k p).2 := by
  unfold holR
  split
  · next c =>
      have q := hoL_keep k 20 p m h.1.1 c.2.2 c.2.1
      exact h.fq q.1 q.2.1
  · exact h
theorem ag_holds {G : QW} {m : AM} {k p : Int} (h : Inv m) (hk1 : -2147483648 ≤ k) (hk2 : k < 2147483648) (hp1 : -2147483648 ≤ p) (hp2 : p < 2147483648) : AG G mX11_holds mX12_holds 7 28 0 0 [vI k, vI p] m :=
  (cr_holds h.1 h.k4 h.k6 hk1 hk2 hp1 hp2).mono (fun r N q => by
    have h70 := h.i.s 86 70 0 20 (by decide)
    by_cases c : (0 ≤ k ∧ k ≤ 1) ∧ (0 ≤ p ∧ p < mi m 86 70)
    · obtain ⟨u, hN, a⟩ := q.1 c
      have i := h.cu hN u
      have e70 : mi N 86 70 = mi m 86 70 := u.1.2.2.1 86 70 (by unfold NQ; omega)
      have s := hoL_sem i.1 i.k6 c.1 20 p.toNat N (by omega) (by rw [e70]; omega) i.1.1 (FQ.rf N)
      rw [show ((p.toNat : Nat) : Int) = p by omega] at s
      have w := u.1.hp h.1 h.k6 k (p := p.toNat) (by omega)
      refine ⟨vI (if (hoL k 20 p N).1 = 0 then 0 else 1), ?_, rfl, i.1.1.1.1.1.1.1, (ct_X12_holds i.1.1 hk1 hk2 hp1 hp2).mono (fun r2 N2 g => ?_)⟩
      · rcases a with ⟨a, b⟩ | ⟨a, b⟩
        · rw [b, if_neg (fun z => s.1.mp z (w.mpr a))]
        · rw [b, if_pos (s.1.mpr (fun z => a (w.mp z)))]
      · refine ⟨?_, (holR_keep i k p).same g.2⟩
        rw [g.1]
        unfold holR
        rw [if_pos ⟨c.1, by rw [e70]; exact c.2⟩]
    · obtain ⟨e, rfl⟩ := q.2 c
      refine ⟨_, e, rfl, h.1.1.1.1.1.1.1, (ct_X12_holds h.1.1 hk1 hk2 hp1 hp2).mono (fun r2 N2 g => ⟨?_, (holR_keep h k p).same g.2⟩)⟩
      rw [g.1]
      unfold holR
      rw [if_neg c])
theorem ag_blind {G : QW} {m : AM} {k : Int} (h : Inv m) (hk1 : -2147483648 ≤ k) (hk2 : k < 2147483648) : AG G mX11_blind mX12_blind 7 29 0 0 [vI k] m :=
  (cr_blind h.1 h.k4 h.k6 hk1 hk2).mono (fun r N q => by
    have h70 := h.i.s 86 70 0 20 (by decide)
    have keep : ∀ {N : AM}, Inv N → Inv (bliR N k).2 := fun {N} i => by
      unfold bliR
      split
      · next c =>
          have D := bdL_bit (m := N) i.1 i.k6 c (i := 0) (by decide) (mi N 86 70).toNat 0 0 N (by have := i.i.s 86 70 0 20 (by decide); omega) i.1.1 (FQ.rf N)
          exact i.fq D.2.1 D.2.2
      · exact i
    by_cases c : 0 ≤ k ∧ k ≤ 1
    · obtain ⟨u, hN, a⟩ := q.1 c
      have i := h.cu hN u
      have e70 : mi N 86 70 = mi m 86 70 := u.1.2.2.1 86 70 (by unfold NQ; omega)
      have e5 : mi N 6 5 = mi m 6 5 := u.1.lemK (by decide)
      have e10 : mi N 10 = mi m 10 := funext (fun j => u.1.lemK (by decide))
      have e11 : mi N 11 = mi m 11 := funext (fun j => u.1.lemK (by decide))
      have es : soB N k = soB m k := by
        unfold soB
        rw [e70]
        refine orL_cg _ (fun j hj => ?_)
        exact u.1.so h.1 k (p := (j : Int)) (by omega)
      refine ⟨_, a, rfl, i.1.1.1.1.1.1.1, (ct_X12_blind i.1.1 hk1 hk2).mono (fun r2 N2 g => ⟨?_, (keep i).same g.2⟩)⟩
      rw [g.1, blind_eq (N := N) i.1 i.k6 c, es, ouI_cg e5 e10 e11]
    · obtain ⟨e, rfl⟩ := q.2 c
      refine ⟨_, e, rfl, h.1.1.1.1.1.1.1, (ct_X12_blind h.1.1 hk1 hk2).mono (fun r2 N2 g => ⟨?_, (keep h).same g.2⟩)⟩
      rw [g.1]
      unfold bliR
      rw [if_neg c])

/-! run(): the same answer, the same latest run on both sides -/
/-- the rest of the ground stays, whatever the latest run and all() left -/
theorem QS.qu {m N : AM} (hQ : QR m) (h : QS m) (f : QU m N) (n8 : K8 N) (n9 : K9 N) : QS N := by
  obtain ⟨k0, k3, k4, k5, k6, k7, -, -, ka, kt, kb, kz⟩ := h
  have e := fun (c j : Nat) (hc : ¬ NQ c j) => f.2.2.1 c j hc
  have e16 : mi N 0 16 = mi m 0 16 := e _ _ (by unfold NQ; omega)
  refine ⟨k0.cu f, ?_, f.k4 k4, ?_, f.k6 k6, ?_, n8, n9, ?_, ?_, ?_, ?_⟩
  · intro b h0 h1
    rw [e16] at h1
    have B := (hQ.2.1.2 b h0 (by rw [← hQ.2.1.1]; exact h1)).1
    have g := k3 b h0 h1
    rw [f.pge B.2.1.1, e (pg m b) 5 (nqq B.2.1.2 5), f.wn]
    exact g
  · unfold K5 at *
    rw [e 1 1 (by unfold NQ; omega), e 86 16 (by unfold NQ; omega)]
    refine ⟨k5.1, fun j hj => ?_⟩
    rw [e 100 j (by unfold NQ; omega), e 2 j (by unfold NQ; omega)]
    exact k5.2 j hj
  · intro s hs
    have g := k7 s hs
    unfold K7s at *
    have el : ∀ c j, ¬ (c = 15 ∨ c = 16 ∨ c = 21 ∨ scr c) → ml N c j = ml m c j := f.2.2.2
    rw [e (68 + 3 * s) 3 (by unfold NQ; omega), e (68 + 3 * s) 2 (by unfold NQ; omega), e (68 + 3 * s) 4 (by unfold NQ; omega), e 140 s (by unfold NQ; omega), e 139 s (by unfold NQ; omega)]
    refine ⟨fun q => ⟨(g.1 q).1, (g.1 q).2.1, fun i hi => ?_⟩, g.2⟩
    rw [el (68 + 3 * s + 1) i (by unfold scr; omega), el 141 (60 * s + i) (by unfold scr; omega), e (68 + 3 * s + 2) i (by unfold NQ; omega), e 142 (60 * s + i) (by unfold NQ; omega)]
    exact (g.1 q).2.2 i hi
  · unfold KA at *
    rw [e 22 1 (by unfold NQ; omega), e 86 76 (by unfold NQ; omega)]
    refine ⟨ka.1, fun j hj => ?_⟩
    rw [e 23 j (by unfold NQ; omega), e 138 j (by unfold NQ; omega)]
    exact ka.2 j hj
  · intro j hj
    rw [e 52 j (by unfold NQ; omega)]
    exact kt j hj
  · intro b h0 h1
    rw [e 86 1 (by unfold NQ; omega)] at h0
    rw [e 91 _ (by unfold NQ; omega), e 90 _ (by unfold NQ; omega)]
    exact kb b h0 h1
  · unfold KZ at *
    rw [f.zz, e16, e 0 17 (by unfold NQ; omega)]
    refine ⟨⟨kz.1.1, kz.1.2.qu k0 f⟩, kz.2.fr e16 f.bxe (fun b h0 h1 s hs => ?_) (fun j => e 88 j (by unfold NQ; omega))⟩
    have B := (hQ.2.1.2 b h0 (by rw [← hQ.2.1.1]; exact h1)).1
    exact e _ _ (nqd (by have := B.2.1.1; omega) s)
/-- the ground, when only the reference's cells are written -/
theorem QR.rw2 {m N : AM} (h : QR m) (hR : RA N) (q : QU m N) (e2 : N.2.2 = m.2.2) (e : ∀ c j, c < 86 → mi N c j = mi m c j) : QR N :=
  ⟨hR, q.k1 h.2.1, q.k2 h.2.2.1, ⟨h.2.2.2.1.1.same (fun r j _ => e _ _ (by omega)), h.2.2.2.1.2.1.same (fun r j _ => e _ _ (by omega)), h.2.2.2.1.2.2.same (fun r j _ => e _ _ (by omega))⟩, ⟨fun j => by rw [e _ _ (by decide)]; exact h.2.2.2.2.1.1 j, fun j => by rw [e _ _ (by decide)]; exact h.2.2.2.2.1.2.1 j, fun j => by rw [e _ _ (by decide)]; exact h.2.2.2.2.1.2.2.1 j, by rw [e _ _ (by decide)]; exact h.2.2.2.2.1.2.2.2⟩, h.2.2.2.2.2.same e2 (fun r j hr => e _ _ (by omega))⟩
theorem QR.c18 {m : AM} (h : QR m) {v : Int} (hv : -1 ≤ v ∧ v ≤ 6) : QR (si m 0 18 v) := by
  have q : QU m (si m 0 18 v) := (QU.rf m).cell (by unfold NQ; omega) v
  have e : ∀ o j, 0 < o → mi (si m 0 18 v) o j = mi m o j := fun o j ho => mi_si_ne m v (by omega)
  have i : IM (si m 0 18 v) := h.i.scal (-1) 6 (by decide) (by decide) hv (by omega) (by decide) (by decide) (by intro j hj; omega) (by decide)
  exact ⟨h.1.ref (q.st h.s) i (fun c' j a b => e _ _ (by omega)), q.k1 h.2.1, q.k2 h.2.2.1, ⟨h.2.2.2.1.1.same (fun r j _ => e _ _ (by omega)), h.2.2.2.1.2.1.same (fun r j _ => e _ _ (by omega)), h.2.2.2.1.2.2.same (fun r j _ => e _ _ (by omega))⟩, ⟨fun j => by rw [e _ _ (by decide)]; exact h.2.2.2.2.1.1 j, fun j => by rw [e _ _ (by decide)]; exact h.2.2.2.2.1.2.1 j, fun j => by rw [e _ _ (by decide)]; exact h.2.2.2.2.1.2.2.1 j, by rw [e _ _ (by decide)]; exact h.2.2.2.2.1.2.2.2⟩, h.2.2.2.2.2.same rfl (fun r j hr => e _ _ (by omega))⟩
/-- a kept run, cell by cell -/
theorem rnK_o {K : AM} {o j : Nat} (h : ¬ (o = 86 ∧ (j = 50 ∨ j = 51))) (h2 : ¬ (116 ≤ o ∧ o ≤ 122)) : mi (rnK K) o j = mi K o j := by
  unfold rnK
  rw [mi_si_ne _ _ (by omega), mi_si_ne _ _ (by omega), mi_si_ne _ _ (by omega), mi_si_ne _ _ (by omega), mi_cpr, if_neg (by omega), mi_cpr, if_neg (by omega), mi_cpr, if_neg (by omega), mi_cpr, if_neg (by omega), mi_cpr, if_neg (by omega), mi_cpr, if_neg (by omega), mi_si_ne _ _ (by omega), mi_si_ne _ _ (by omega)]
theorem rnK_50 {K : AM} : mi (rnK K) 86 50 = 1 := by
  unfold rnK
  rw [mi_si_ne _ _ (by omega), mi_si_ne _ _ (by omega), mi_si_ne _ _ (by omega), mi_si_ne _ _ (by omega), mi_cpr, if_neg (by omega), mi_cpr, if_neg (by omega), mi_cpr, if_neg (by omega), mi_cpr, if_neg (by omega), mi_cpr, if_neg (by omega), mi_cpr, if_neg (by omega), mi_si_ne _ _ (by omega), mi_si_same _ _ _ (by decide) (by decide)]
theorem rnK_51 {K : AM} : mi (rnK K) 86 51 = mi K 86 1 := by
  unfold rnK
  rw [mi_si_ne _ _ (by omega), mi_si_ne _ _ (by omega), mi_si_ne _ _ (by omega), mi_si_ne _ _ (by omega), mi_cpr, if_neg (by omega), mi_cpr, if_neg (by omega), mi_cpr, if_neg (by omega), mi_cpr, if_neg (by omega), mi_cpr, if_neg (by omega), mi_cpr, if_neg (by omega), mi_si_same _ _ _ (mi_rng _ _ _).1 (mi_rng _ _ _).2]
theorem rnK_116 {K : AM} (j : Nat) : mi (rnK K) 116 j = if (j : Int) < 48 then mi K 106 j else mi K 116 j := by
  unfold rnK
  rw [mi_si_ne _ _ (by omega), mi_si_ne _ _ (by omega), mi_si_ne _ _ (by omega), mi_si_ne _ _ (by omega), mi_cpr, if_neg (by omega), mi_cpr, if_neg (by omega), mi_cpr, if_neg (by omega), mi_cpr, if_neg (by omega), mi_cpr, if_neg (by omega), mi_cpr, mi_si_ne _ _ (by omega), mi_si_ne _ _ (by omega), mi_si_ne _ _ (by omega), mi_si_ne _ _ (by omega)]
  simp only [true_and]
theorem rnK_117 {K : AM} (j : Nat) : mi (rnK K) 117 j = if (j : Int) < 24 then mi K 107 j else mi K 117 j := by
  unfold rnK
  rw [mi_si_ne _ _ (by omega), mi_si_ne _ _ (by omega), mi_si_ne _ _ (by omega), mi_si_ne _ _ (by omega), mi_cpr, if_neg (by omega), mi_cpr, if_neg (by omega), mi_cpr, if_neg (by omega), mi_cpr, if_neg (by omega), mi_cpr]
  simp only [true_and]
  split
  · rw [mi_cpr, if_neg (by omega), mi_si_ne _ _ (by omega), mi_si_ne _ _ (by omega)]
  · rw [mi_cpr, if_neg (by omega), mi_si_ne _ _ (by omega), mi_si_ne _ _ (by omega)]
theorem rnK_118 {K : AM} (j : Nat) : mi (rnK K) 118 j = if (j : Int) < 24 then mi K 108 j else mi K 118 j := by
  unfold rnK
  rw [mi_si_ne _ _ (by omega), mi_si_ne _ _ (by omega), mi_si_ne _ _ (by omega), mi_si_ne _ _ (by omega), mi_cpr, if_neg (by omega), mi_cpr, if_neg (by omega), mi_cpr, if_neg (by omega), mi_cpr]
  simp only [true_and]
  split
  · rw [mi_cpr, if_neg (by omega), mi_cpr, if_neg (by omega), mi_si_ne _ _ (by omega), mi_si_ne _ _ (by omega)]
  · rw [mi_cpr, if_neg (by omega), mi_cpr, if_neg (by omega), mi_si_ne _ _ (by omega), mi_si_ne _ _ (by omega)]
theorem rnK_119 {K : AM} (j : Nat) : mi (rnK K) 119 j = if (j : Int) < 6 then mi K 111 j else mi K 119 j := by
  unfold rnK
  rw [mi_si_ne _ _ (by omega), mi_si_ne _ _ (by omega), mi_si_ne _ _ (by omega), mi_si_ne _ _ (by omega), mi_cpr, if_neg (by omega), mi_cpr, if_neg (by omega), mi_cpr]
  simp only [true_and]
  split
  · rw [mi_cpr, if_neg (by omega), mi_cpr, if_neg (by omega), mi_cpr, if_neg (by omega), mi_si_ne _ _ (by omega), mi_si_ne _ _ (by omega)]
  · rw [mi_cpr, if_neg (by omega), mi_cpr, if_neg (by omega), mi_cpr, if_neg (by omega), mi_si_ne _ _ (by omega), mi_si_ne _ _ (by omega)]
theorem rnK_120 {K : AM} (j : Nat) : mi (rnK K) 120 j = if (j : Int) < 6 then mi K 112 j else mi K 120 j := by
  unfold rnK
  rw [mi_si_ne _ _ (by omega), mi_si_ne _ _ (by omega), mi_si_ne _ _ (by omega), mi_si_ne _ _ (by omega), mi_cpr, if_neg (by omega), mi_cpr]
  simp only [true_and]
  split
  · rw [mi_cpr, if_neg (by omega), mi_cpr, if_neg (by omega), mi_cpr, if_neg (by omega), mi_cpr, if_neg (by omega), mi_si_ne _ _ (by omega), mi_si_ne _ _ (by omega)]
  · rw [mi_cpr, if_neg (by omega), mi_cpr, if_neg (by omega), mi_cpr, if_neg (by omega), mi_cpr, if_neg (by omega), mi_si_ne _ _ (by omega), mi_si_ne _ _ (by omega)]
theorem rnK_121 {K : AM} (j : Nat) : mi (rnK K) 121 j = if (j : Int) < 6 then mi K 113 j else mi K 121 j := by
  unfold rnK
  rw [mi_si_ne _ _ (by omega), mi_si_ne _ _ (by omega), mi_si_ne _ _ (by omega), mi_si_ne _ _ (by omega), mi_cpr]
  simp only [true_and]
  split
  · rw [mi_cpr, if_neg (by omega), mi_cpr, if_neg (by omega), mi_cpr, if_neg (by omega), mi_cpr, if_neg (by omega), mi_cpr, if_neg (by omega), mi_si_ne _ _ (by omega), mi_si_ne _ _ (by omega)]
  · rw [mi_cpr, if_neg (by omega), mi_cpr, if_neg (by omega), mi_cpr, if_neg (by omega), mi_cpr, if_neg (by omega), mi_cpr, if_neg (by omega), mi_si_ne _ _ (by omega), mi_si_ne _ _ (by omega)]
theorem rnK_122 {K : AM} : mi (rnK K) 122 0 = mi K 86 35 ∧ mi (rnK K) 122 1 = mi K 86 36 ∧ mi (rnK K) 122 2 = mi K 86 37 ∧ mi (rnK K) 122 3 = mi K 86 38 := by
  unfold rnK
  refine ⟨?_, ?_, ?_, ?_⟩
  · rw [mi_si_ne _ _ (by omega), mi_si_ne _ _ (by omega), mi_si_ne _ _ (by omega)]
    exact mi_si_same _ _ _ (mi_rng _ _ _).1 (mi_rng _ _ _).2
  · rw [mi_si_ne _ _ (by omega), mi_si_ne _ _ (by omega)]
    exact mi_si_same _ _ _ (mi_rng _ _ _).1 (mi_rng _ _ _).2
  · rw [mi_si_ne _ _ (by omega)]
    exact mi_si_same _ _ _ (mi_rng _ _ _).1 (mi_rng _ _ _).2
  · exact mi_si_same _ _ _ (mi_rng _ _ _).1 (mi_rng _ _ _).2
theorem rnK_4 {K : AM} {j : Nat} (hj : 4 ≤ j) : mi (rnK K) 122 j = mi K 122 j := by
  unfold rnK
  rw [mi_si_ne _ _ (by omega), mi_si_ne _ _ (by omega), mi_si_ne _ _ (by omega), mi_si_ne _ _ (by omega), mi_cpr, if_neg (by omega), mi_cpr, if_neg (by omega), mi_cpr, if_neg (by omega), mi_cpr, if_neg (by omega), mi_cpr, if_neg (by omega), mi_cpr, if_neg (by omega), mi_si_ne _ _ (by omega), mi_si_ne _ _ (by omega)]
theorem QU.rnK {m K : AM} (h : QU m K) : QU m (rnK K) := ⟨h.1, h.2.1, fun c j hc => by
  rw [rnK_o (by unfold NQ at hc; omega) (by unfold NQ at hc; omega)]
  exact h.2.2.1 c j hc, h.2.2.2⟩
theorem RI.krn {K : AM} (h : RI K) : IM (rnK K) := by
  have hI := h.i
  have h1 := hI.s 86 1 0 6 (by decide)
  refine hI.rg (fun q hq => ?_) (fun q hq j => ?_) (fun j hj => ?_)
  · by_cases c : q.1 = 86 ∧ (q.2.1 = 50 ∨ q.2.1 = 51)
    · have g := (by decide : ∀ q ∈ imS, q.1 = 86 → (q.2.1 = 50 → q.2.2 = ((0 : Int), (1 : Int))) ∧ (q.2.1 = 51 → q.2.2 = ((0 : Int), (6 : Int)))) q hq c.1
      refine Or.inr ?_
      rcases c.2 with z | z
      · rw [c.1, z, g.1 z, rnK_50]
        decide
      · rw [c.1, z, g.2 z, rnK_51]
        exact h1
    · exact Or.inl (rnK_o c (by have := (by decide : ∀ q ∈ imS, ¬ (116 ≤ q.1 ∧ q.1 ≤ 122)) q hq; exact this))
  · by_cases c : 116 ≤ q.1 ∧ q.1 ≤ 122
    · have g := (by decide : ∀ q ∈ imA, 116 ≤ q.1 → q.1 ≤ 122 → (q.1 = 116 ∧ q.2 = ((-1000000 : Int), (1000000 : Int))) ∨ (q.1 = 117 ∧ q.2 = ((-1000000 : Int), (1000000 : Int))) ∨ (q.1 = 118 ∧ q.2 = ((0 : Int), (10 : Int))) ∨ (q.1 = 119 ∧ q.2 = ((0 : Int), (1 : Int))) ∨ (q.1 = 120 ∧ q.2 = ((-1 : Int), (200 : Int))) ∨ (q.1 = 122 ∧ q.2 = ((-1 : Int), (200 : Int)))) q hq c.1 c.2
      refine Or.inr ?_
      rcases g with ⟨g1, g2⟩ | ⟨g1, g2⟩ | ⟨g1, g2⟩ | ⟨g1, g2⟩ | ⟨g1, g2⟩ | ⟨g1, g2⟩
      · rw [g1, g2, rnK_116]
        split
        · exact h.1.1.2.2.2.1 j
        · exact hI.a 116 (-1000000) 1000000 (by decide) j
      · rw [g1, g2, rnK_117]
        split
        · exact h.1.2.1 j
        · exact hI.a 117 (-1000000) 1000000 (by decide) j
      · rw [g1, g2, rnK_118]
        split
        · exact h.1.2.2 j
        · exact hI.a 118 0 10 (by decide) j
      · rw [g1, g2, rnK_119]
        split
        · exact h.2.1.1 j
        · exact hI.a 119 0 1 (by decide) j
      · rw [g1, g2, rnK_120]
        split
        · exact h.2.1.2.1 j
        · exact hI.a 120 (-1) 200 (by decide) j
      · rw [g1, g2]
        by_cases z : 4 ≤ j
        · rw [rnK_4 z]; exact hI.a 122 (-1) 200 (by decide) j
        · have r := rnK_122 (K := K)
          rcases (by omega : j = 0 ∨ j = 1 ∨ j = 2 ∨ j = 3) with rfl | rfl | rfl | rfl
          · rw [r.1]; exact h.2.1.2.2 35 (by decide) (by decide)
          · rw [r.2.1]; exact h.2.1.2.2 36 (by decide) (by decide)
          · rw [r.2.2.1]; exact h.2.1.2.2 37 (by decide) (by decide)
          · rw [r.2.2.2]; exact h.2.1.2.2 38 (by decide) (by decide)
    · exact Or.inl (rnK_o (by have := (by decide : ∀ q ∈ imA, q.1 ≠ 86) q hq; exact fun z => this z.1) c)
  · rw [rnK_o (by omega) (by omega), rnK_o (by omega) (by omega), rnK_o (by omega) (by omega), rnK_o (by omega) (by omega)]
    exact hI.2.2 j hj
/-- how many are dead, counted in bits or one by one -/
theorem orL_c2 {f g : Nat → Int} : ∀ n : Nat, (∀ j, j < n → (f j ≠ 0 ↔ g j ≠ 0)) → orL f n = orL g n
  | 0, _ => rfl
  | n + 1, h => by
    unfold orL
    rw [orL_c2 n (fun j hj => h j (by omega))]
    by_cases z : f n ≠ 0
    · rw [if_pos z, if_pos ((h n (by omega)).mp z)]
    · rw [if_neg z, if_neg (fun y => z ((h n (by omega)).mpr y))]
theorem cntI_c2 {f g : Nat → Int} : ∀ n : Nat, (∀ j, j < n → (f j ≠ 0 ↔ g j ≠ 0)) → cntI f n = cntI g n
  | 0, _ => rfl
  | n + 1, h => by
    unfold cntI
    rw [cntI_c2 n (fun j hj => h j (by omega))]
    by_cases z : f n ≠ 0
    · rw [if_pos z, if_pos ((h n (by omega)).mp z)]
    · rw [if_neg z, if_neg (fun y => z ((h n (by omega)).mpr y))]
def bl6 (a b c d e f : Bool) : Nat → Int := fun j => if List.getD [a, b, c, d, e, f] j false then 1 else 0
theorem bl6_cnt : ∀ a b c d e f : Bool, bcX (orL (bl6 a b c d e f) 6) = cntI (bl6 a b c d e f) 6 := by decide +kernel
theorem bl6_ne {g : Nat → Int} {j : Nat} (hj : j < 6) : g j ≠ 0 ↔ bl6 (decide (g 0 ≠ 0)) (decide (g 1 ≠ 0)) (decide (g 2 ≠ 0)) (decide (g 3 ≠ 0)) (decide (g 4 ≠ 0)) (decide (g 5 ≠ 0)) j ≠ 0 := by
  unfold bl6
  rcases (by omega : j = 0 ∨ j = 1 ∨ j = 2 ∨ j = 3 ∨ j = 4 ∨ j = 5) with rfl | rfl | rfl | rfl | rfl | rfl <;> simp
theorem cnt_orL (g h : Nat → Int) (e : ∀ j, j < 6 → (g j ≠ 0 ↔ h j ≠ 0)) : bcX (orL g 6) = cntI h 6 := by
  rw [orL_c2 6 (fun j hj => bl6_ne (g := g) hj), ← cntI_c2 6 e, cntI_c2 6 (fun j hj => bl6_ne (g := g) hj)]
  exact bl6_cnt _ _ _ _ _ _
/-- the reference's run behind the class's -/
theorem ref_K {m : AM} {f n : Int} (h : QR m) (hf : 0 ≤ f ∧ f < mi m 0 17) (hn : 1 ≤ n ∧ n ≤ 200) : RI (roM (aiM m) f n) ∧ FQ m (roM (aiM m) f n) ∧ JM (roM (aiM m) f n) (zwFull (wN m) (feF m (fl m f)) n) := by
  have hR : RI (aiM m) := h.1.1.1.asIs
  have hF : FQ m (aiM m) := (FQ.rf m).asIs
  have k := aiM_k m
  exact ⟨hR.run (by omega) hn.2, hF.run f n, ref_run h hR hF k.1 k.2.1 k.2.2 hf (by omega) hn.2⟩
theorem run_ok {m N : AM} {f n : Int} (h : Inv m) (hf : 0 ≤ f ∧ f < mi m 0 17) (hn : 1 ≤ n ∧ n ≤ 200) (hB : BI m 24 True N (zwFly (wN m) (feF m (fl m f)) n 0)) (hQ : QR N) : QR (si N 0 18 (mi m 0 16)) ∧ (runR (si N 0 18 (mi m 0 16)) f n).1 = bcX (mi N 24 7) ∧ Inv (runR (si N 0 18 (mi m 0 16)) f n).2 := by
  have h16 := h.i.s 0 16 0 6 (by decide)
  have e16 : mi m 0 16 = mi m 86 1 := h.1.2.1.1
  have e17 : mi m 0 17 = mi m 86 21 := h.1.2.2.1.1
  obtain ⟨hT, -, -, hJC, hJF⟩ := hB
  have hJF := hJF trivial
  rw [zwFly_0] at hJC hJF
  have hq0 : QU m N := hT.qu (Or.inl rfl)
  have hQ2 := hQ.c18 (v := mi m 0 16) (by omega)
  have hq : QU m (si N 0 18 (mi m 0 16)) := hq0.cell (by unfold NQ; omega) _
  have w0 : ∀ c j, ¬ (c = 0 ∧ j = 18) → mi (si N 0 18 (mi m 0 16)) c j = mi N c j := fun c j z => mi_si_ne N _ z
  have v18 : mi (si N 0 18 (mi m 0 16)) 0 18 = mi m 0 16 := mi_si_same N _ _ (by omega) (by omega)
  generalize si N 0 18 (mi m 0 16) = M at hQ2 hq w0 v18
  have c86 : ∀ c j, ¬ NQ c j → mi M c j = mi m c j := hq.2.2.1
  have f17 : mi M 0 17 = mi m 0 17 := c86 0 17 (by unfold NQ; omega)
  have f21 : mi M 86 21 = mi m 86 21 := c86 86 21 (by unfold NQ; omega)
  have f1 : mi M 86 1 = mi m 86 1 := c86 86 1 (by unfold NQ; omega)
  have hK := ref_K (f := f) (n := n) hQ2 (by rw [f17]; exact hf) hn
  have ew : wN M = wN m := hq.wn
  have ef : feF M (fl M f) = feF m (fl m f) := hq.fee (h.1.flt hf.1 hf.2).1.2
  rw [ew, ef] at hK
  have hrun : runR M f n = (cntI (mi (roM (aiM M) f n) 111) 6, rnK (roM (aiM M) f n)) := if_pos ⟨by rw [f21, ← e17]; exact hf, hn⟩
  rw [hrun]
  obtain ⟨hRK, hFK, hJK⟩ := hK
  generalize roM (aiM M) f n = K at hRK hFK hJK
  generalize zwFull (wN m) (feF m (fl m f)) n = S at hJC hJF hJK
  refine ⟨hQ2, ?_, ?_⟩
  · rw [dead_orL hJC]
    refine (cnt_orL _ _ (fun j hj => ?_)).symm
    rw [hJK.2.2.2.1 j hj]
    by_cases z : S.fa j ≠ 0
    · rw [if_pos z]; exact ⟨fun _ => by decide, fun _ => z⟩
    · rw [if_neg z]; exact ⟨fun y => absurd y z, fun y => absurd rfl y⟩
  · have hqK : QU m K := hq.trans hFK.qu
    have hqR : QU m (rnK K) := hqK.rnK
    have raK : RA K := hQ2.1.mv hRK hFK
    have iR : IM (rnK K) := hRK.krn
    have raR : RA (rnK K) := raK.fr hRK.s iR (fun c j hc => rnK_o (by
      have g : c ∈ riL → c ≠ 86 := fun z => (by decide : ∀ c ∈ riL, c ≠ 86) c z
      rintro ⟨z1, z2⟩
      rcases hc with q | q | q | q | q | q
      · exact g q z1
      all_goals omega) (by
      have g : c ∈ riL → c < 116 := fun z => (by decide : ∀ c ∈ riL, c < 116) c z
      rcases hc with q | q | q | q | q | q
      · have := g q; omega
      all_goals omega))
    have lowK : ∀ c j, c < 86 → mi (rnK K) c j = mi M c j := fun c j hc => by
      rw [rnK_o (by omega) (by omega)]
      exact hFK.cell (by omega) (by omega) (by omega)
    have qr : QR (rnK K) := hQ2.rw2 raR (hFK.qu.rnK) (show K.2.2 = M.2.2 from hFK.1) lowK
    refine ⟨qr, h.2.qu h.1 hqR ?_ ?_⟩
    · refine Or.inr ⟨rnK_50, ?_, S, ?_, ?_, ?_⟩
      · rw [rnK_51, lowK _ _ (by decide), v18, hFK.cell (by decide) (by decide) (by decide), f1, e16]
      · exact hJC.same (fun r j hr => by rw [lowK _ _ (by omega), w0 _ _ (by omega)])
      · exact hJF.same (by rw [lowK _ _ (by omega), w0 _ _ (by omega)]) (fun j => by rw [lowK _ _ (by omega), w0 _ _ (by omega)])
      · obtain ⟨a1, a2, a3, a4, a5, a6, a7, a8⟩ := hJK
        have r := rnK_122 (K := K)
        refine ⟨fun j hj => ?_, fun j hj => ?_, fun b p hb hp => ?_, fun b hb => ?_, fun b hb => ?_, fun b hb => ?_, r.1.trans a7, fun z => ?_⟩
        · rw [rnK_116, if_pos (by omega)]; exact a1 j hj
        · rw [rnK_117, if_pos (by omega)]; exact a2 j hj
        · rw [rnK_118, if_pos (by omega)]; exact a3 b p hb hp
        · rw [rnK_119, if_pos (by omega)]; exact a4 b hb
        · rw [rnK_120, if_pos (by omega)]; exact a5 b hb
        · rw [rnK_121, if_pos (by omega)]; exact a6 b hb
        · have q := a8 z
          exact ⟨r.2.1.trans q.1, r.2.2.1.trans q.2.1, r.2.2.2.trans q.2.2⟩
    · have k9 := h.k9
      have e62 : mi (rnK K) 86 62 = mi m 86 62 := by
        rw [rnK_o (by omega) (by omega), hFK.cell (by decide) (by decide) (by decide)]
        rw [w0 _ _ (by omega)]
        exact hT.cel (by unfold tcl; omega) 62
      have e125 : ∀ j, mi (rnK K) 125 j = mi m 125 j := fun j => by
        rw [rnK_o (by omega) (by omega), hFK.cell (by omega) (by omega) (by omega), w0 _ _ (by omega)]
        exact hT.cel (by unfold tcl; omega) j
      have e19 : mi (rnK K) 0 19 = mi m 0 19 := by
        rw [lowK _ _ (by decide), w0 _ _ (by omega)]
        exact hT.cel (by unfold tcl; omega) 19
      have e57 : ∀ j, mi (rnK K) 57 j = mi m 57 j := fun j => by
        rw [lowK _ _ (by decide), w0 _ _ (by omega)]
        exact hT.cel (by unfold tcl; omega) j
      refine ⟨by rw [e19, e62]; exact k9.1, fun j hj => by rw [e57, e125]; exact k9.2 j hj⟩
theorem ag_run {G : QW} {m : AM} {f n : Int} (h : Inv m) (hf1 : -2147483648 ≤ f) (hf2 : f < 2147483648) (hn1 : -2147483648 ≤ n) (hn2 : n < 2147483648) : AG G mX11_run mX12_run 6 6 0 0 [vI f, vI n] m := by
  refine (cr_run h.1 hf1 hf2 hn1 hn2).mono (fun r N2 q => ?_)
  by_cases c : (0 ≤ f ∧ f < mi m 0 17) ∧ 1 ≤ n ∧ n ≤ 200
  · obtain ⟨N, hB, -, hQ, e1, e2⟩ := q.1 c
    obtain ⟨hR, hv, hI2⟩ := run_ok h c.1 c.2 hB hQ
    rw [e1]
    exact ⟨_, e2, rfl, hR.1.1.1.1.1.1, (ct_X12_run hR.1.1.1 hf1 hf2 hn1 hn2).mono (fun r2 m2 p => ⟨by rw [p.1, hv], hI2.same p.2⟩)⟩
  · obtain ⟨e2, e1⟩ := q.2 c
    rw [e1]
    refine ⟨_, e2, rfl, h.1.1.1.1.1.1.1, (ct_X12_run h.1.1.1.1 hf1 hf2 hn1 hn2).mono (fun r2 m2 p => ?_)⟩
    have e : runR m f n = (-1, m) := if_neg (by rw [← h.1.2.2.1.1]; exact c)
    rw [e] at p
    exact ⟨p.1, h.same p.2⟩

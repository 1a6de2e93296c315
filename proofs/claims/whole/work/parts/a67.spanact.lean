/-! what writes neither a box nor a flight nor a shelf: spans, acts, the tape -/
theorem Inv.qv {m N : AM} (h : Inv m) (v : QV m N) (ra : RA N) (e : ∀ c j : Nat, (17 ≤ c ∧ c ≤ 20) ∨ (24 ≤ c ∧ c ≤ 56) → mi N c j = mi m c j) (k4 : K4 N) (k5 : K5 N) (k6 : K6 N) (k7 : K7 N) (k8 : K8 N) (k9 : K9 N) (ka : KA N) : Inv N := ⟨v.qr h.1 ra e, v.k0 h.k0, v.k3 h.1 h.k3, k4, k5, k6, k7, k8, k9, ka, h.kt.fr (fun j => e 52 j (by omega)), v.kb h.kb, v.kz h.k0 h.kz⟩
theorem RA.fs {m N : AM} (h : RA m) (hS : St N) (hI : IM N) (e : ∀ c j : Nat, c ∈ riL ∨ c = 88 ∨ (133 ≤ c ∧ c ≤ 136) ∨ (c = 86 ∧ (j = 1 ∨ j = 21 ∨ j = 70 ∨ (35 ≤ j ∧ j ≤ 45))) → mi N c j = mi m c j) (hs : ∀ j : Int, 0 ≤ j → j ≤ 5 → mi N 123 j.toNat ≤ mi N 124 j.toNat) : RA N := by
  obtain ⟨⟨h1, h2, h3⟩, h4⟩ := h
  refine ⟨⟨h1.ext hS hI (fun o ho j => e _ _ (Or.inl ho)) (fun k hk => ?_), ?_, hs⟩, ?_⟩
  · have q := (by decide : ∀ k ∈ riK, k = 1 ∨ k = 21 ∨ k = 70 ∨ (35 ≤ k ∧ k ≤ 45)) k hk
    exact e 86 k (by omega)
  · intro b s
    rw [e 86 1 (by omega), e 88 _ (by omega)]
    exact h2 b s
  · intro p
    rw [e 86 70 (by omega), e 86 1 (by omega), e 86 21 (by omega), e 133 _ (by omega), e 134 _ (by omega), e 135 _ (by omega), e 136 _ (by omega), e 136 _ (by omega)]
    exact h4 p
theorem key_span {m : AM} (h : Inv m) (f lo hi : Int) : KeyP (FX11_span m f lo hi) (fun N => FX12_span N f lo hi) := by
  by_cases c : (0 ≤ f ∧ f / 10 ≤ 1 ∧ f % 10 ≤ 2) ∧ -99999 ≤ lo ∧ lo ≤ hi ∧ hi ≤ 99999
  · have f1 : FX11_span m f lo hi = (1, FX8_tell m (f / 10) (f % 10) lo hi) := by
      unfold FX11_span
      rw [if_neg (show ¬ f < 0 by omega), if_neg (show ¬ f / 10 ≥ 2 by omega), if_neg (show ¬ f % 10 ≥ 3 by omega), if_pos (show lo ≤ hi by omega), if_pos (show -99999 ≤ lo ∧ lo ≤ 99999 by omega), if_pos (show -99999 ≤ hi ∧ hi ≤ 99999 by omega)]
    have f2 : ∀ N, FX12_span N f lo hi = (1, si (si N 123 ((3 * (f / 10)) + (f % 10)).toNat lo) 124 ((3 * (f / 10)) + (f % 10)).toNat hi) := fun N => by
      unfold FX12_span
      rw [if_neg (show ¬ f < 0 by omega), if_pos (show 0 ≤ f / 10 ∧ f / 10 ≤ 1 by omega), if_pos (show 0 ≤ f % 10 ∧ f % 10 ≤ 2 by omega), if_pos (show -99999 ≤ lo ∧ lo ≤ 99999 by omega), if_pos (show lo ≤ hi ∧ hi ≤ 99999 by omega)]
    have ei : ((f / 10 * 3) + f % 10).toNat = ((3 * (f / 10)) + (f % 10)).toNat := by omega
    have ht : ((3 * (f / 10)) + (f % 10)).toNat < 6 := by omega
    unfold FX8_tell at f1
    rw [ei] at f1
    generalize ((3 * (f / 10)) + (f % 10)).toNat = t at f1 f2 ht
    rw [f1]
    unfold KeyP
    show St (si (si m 13 t lo) 14 t hi) ∧ IM (si (si m 13 t lo) 14 t hi) ∧ (1 : Int) = (FX12_span (si (si m 13 t lo) 14 t hi) f lo hi).1 ∧ Inv (FX12_span (si (si m 13 t lo) 14 t hi) f lo hi).2
    rw [f2]
    have cel : ∀ {M : AM} (o : Nat) (v : Int), (o = 13 ∨ o = 14 ∨ o = 123 ∨ o = 124) → -99999 ≤ v → v ≤ 99999 → IM M → IM (si M o t v) := fun {M} o v ho v1 v2 hM => by
      rcases ho with rfl | rfl | rfl | rfl <;> exact hM.cell (-99999) 99999 (fun q hq e _ => by revert q; decide) (by decide) ⟨v1, v2⟩ (by omega) (by decide) (by decide) (by decide) (by decide)
    have i1 : IM (si (si m 13 t lo) 14 t hi) := cel 14 hi (by omega) (by omega) (by omega) (cel 13 lo (by omega) (by omega) (by omega) h.i)
    refine ⟨h.s, i1, rfl, ?_⟩
    have i2 : IM (si (si (si (si m 13 t lo) 14 t hi) 123 t lo) 124 t hi) := cel 124 hi (by omega) (by omega) (by omega) (cel 123 lo (by omega) (by omega) (by omega) i1)
    have w : ∀ c j, c ≠ 13 → c ≠ 14 → c ≠ 123 → c ≠ 124 → mi (si (si (si (si m 13 t lo) 14 t hi) 123 t lo) 124 t hi) c j = mi m c j := fun c j a b d e => by
      rw [mi_si_ne _ _ (fun q => e q.1), mi_si_ne _ _ (fun q => d q.1), mi_si_ne _ _ (fun q => b q.1), mi_si_ne _ _ (fun q => a q.1)]
    have w4 : ∀ j, mi (si (si (si (si m 13 t lo) 14 t hi) 123 t lo) 124 t hi) 13 j = (if j = t then lo else mi m 13 j) ∧ mi (si (si (si (si m 13 t lo) 14 t hi) 123 t lo) 124 t hi) 14 j = (if j = t then hi else mi m 14 j) ∧ mi (si (si (si (si m 13 t lo) 14 t hi) 123 t lo) 124 t hi) 123 j = (if j = t then lo else mi m 123 j) ∧ mi (si (si (si (si m 13 t lo) 14 t hi) 123 t lo) 124 t hi) 124 j = (if j = t then hi else mi m 124 j) := fun j => by
      by_cases q : j = t
      · rw [if_pos q, if_pos q, if_pos q, if_pos q, q]
        refine ⟨?_, ?_, ?_, ?_⟩
        · rw [mi_si_ne _ _ (by omega), mi_si_ne _ _ (by omega), mi_si_ne _ _ (by omega), mi_si_same _ _ _ (by omega) (by omega)]
        · rw [mi_si_ne _ _ (by omega), mi_si_ne _ _ (by omega), mi_si_same _ _ _ (by omega) (by omega)]
        · rw [mi_si_ne _ _ (by omega), mi_si_same _ _ _ (by omega) (by omega)]
        · rw [mi_si_same _ _ _ (by omega) (by omega)]
      · rw [if_neg q, if_neg q, if_neg q, if_neg q]
        refine ⟨?_, ?_, ?_, ?_⟩ <;> rw [mi_si_ne _ _ (by omega), mi_si_ne _ _ (by omega), mi_si_ne _ _ (by omega), mi_si_ne _ _ (by omega)]
    show Inv (si (si (si (si m 13 t lo) 14 t hi) 123 t lo) 124 t hi)
    have k7 : K7 (si (si (si (si m 13 t lo) 14 t hi) 123 t lo) 124 t hi) := h.k7.fr (fun c j hc => w c j (by omega) (by omega) (by omega) (by omega)) (fun c j _ => rfl)
    have v : QV m (si (si (si (si m 13 t lo) 14 t hi) 123 t lo) 124 t hi) := QV.mk0 rfl (fun c j hc => w c j (fun z => hc (by unfold NV; omega)) (fun z => hc (by unfold NV; omega)) (fun z => hc (by unfold NV; omega)) (fun z => hc (by unfold NV; omega)))
    have hS : St (si (si (si (si m 13 t lo) 14 t hi) 123 t lo) 124 t hi) := h.s
    generalize si (si (si (si m 13 t lo) 14 t hi) 123 t lo) 124 t hi = N at i2 w w4 k7 v hS
    have wr : ∀ c j, c ∉ [13, 14, 123, 124] → mi N c j = mi m c j := fun c j hc => w c j (by rintro rfl; simp at hc) (by rintro rfl; simp at hc) (by rintro rfl; simp at hc) (by rintro rfl; simp at hc)
    refine h.qv v (h.1.1.fs hS i2 (fun c j hc => ?_) (fun j h0 h1 => ?_)) (fun c j hc => w c j (by omega) (by omega) (by omega) (by omega)) (fun j hj => ?_) (h.k5.fr (fun c j hc => w c j (by omega) (by omega) (by omega) (by omega))) (h.k6.fr (fun c j hc => w c j (by omega) (by omega) (by omega) (by omega))) k7 (h.k8.fr (fun c j hc => w c j (by omega) (by omega) (by omega) (by omega))) (h.k9.fr (fun c j hc => w c j (by omega) (by omega) (by omega) (by omega))) (h.ka.fr (fun c j hc => w c j (by omega) (by omega) (by omega) (by omega)))
    · rcases hc with q | q
      · have := (by decide : ∀ c ∈ riL, 88 ≤ c ∧ c ≤ 114) c q
        exact w c j (by omega) (by omega) (by omega) (by omega)
      · exact w c j (by omega) (by omega) (by omega) (by omega)
    · rw [(w4 j.toNat).2.2.1, (w4 j.toNat).2.2.2]
      split
      · omega
      · exact h.1.1.1.2.2 j h0 h1
    · obtain ⟨a, b, d, e⟩ := w4 j
      rw [a, b, d, e]
      have k := h.k4 j hj
      rw [k.1, k.2]
      exact ⟨rfl, rfl⟩
  · refine keyP_no h (v := -1) ?_ ?_
    · unfold FX11_span
      (repeat' split) <;> first | rfl | (exfalso; omega)
    · show FX12_span m f lo hi = _
      unfold FX12_span
      (repeat' split) <;> first | rfl | (exfalso; omega)
theorem ag_span {G : QW} {m : AM} {f lo hi : Int} (h : Inv m) (hf1 : -2147483648 ≤ f) (hf2 : f < 2147483648) (hlo1 : -2147483648 ≤ lo) (hlo2 : lo < 2147483648) (hhi1 : -2147483648 ≤ hi) (hhi2 : hi < 2147483648) : AG G mX11_span mX12_span 1 2 0 0 [vI f, vI lo, vI hi] m :=
  AG.key (g := fun N => FX12_span N f lo hi) (ct_X11_span h.s h.i hf1 hf2 hlo1 hlo2 hhi1 hhi2) (fun a b => ct_X12_span a b hf1 hf2 hlo1 hlo2 hhi1 hhi2) (key_span h f lo hi)
/-! acts -/
def TR (A B : AM) : Prop := mi A 22 1 = mi B 86 76 ∧ ∀ j : Nat, j < 24 → mi A 23 j = mi B 138 j
theorem TR.one {A B : AM} (h : TR A B) (h0 : 0 ≤ mi A 22 1 ∧ mi A 22 1 ≤ 1000) {c : Int} (hc : 0 ≤ c ∧ c ≤ 100) : TR (ranC A c) (ranM B c) ∧ mi (ranC A c) 22 1 = mi A 22 1 + 1 := by
  have e1 : mi (ranC A c) 22 1 = mi A 22 1 + 1 := mi_si_same _ _ _ (by omega) (by omega)
  have e2 : mi (ranM B c) 86 76 = mi B 86 76 + 1 := mi_si_same _ _ _ (by have := h.1; omega) (by have := h.1; omega)
  refine ⟨⟨by rw [e1, e2, h.1], fun j hj => ?_⟩, e1⟩
  unfold ranC ranM
  rw [mi_si_ne _ _ (by omega), mi_si_ne _ _ (by omega), ← h.1]
  by_cases q : mi A 22 1 < 24
  · rw [if_pos q, if_pos q]
    by_cases z : j = (mi A 22 1).toNat
    · rw [z, mi_si_same _ _ _ (by omega) (by omega), mi_si_same _ _ _ (by omega) (by omega)]
    · rw [mi_si_ne _ _ (by omega), mi_si_ne _ _ (by omega)]
      exact h.2 j hj
  · rw [if_neg q, if_neg q]
    exact h.2 j hj
theorem TR.list : ∀ (l : List Int) {A B : AM}, TR A B → 0 ≤ mi A 22 1 → mi A 22 1 + l.length ≤ 1000 → (∀ c ∈ l, 0 ≤ c ∧ c ≤ 100) → TR (ranD l A) (ranL l B) ∧ mi (ranD l A) 22 1 = mi A 22 1 + l.length := by
  intro l
  induction l with
  | nil => intro A B h _ _ _; exact ⟨h, by show mi A 22 1 = mi A 22 1 + ((0 : Nat) : Int); omega⟩
  | cons c l ih =>
    intro A B h h0 h1 h2
    have hl : ((c :: l).length : Int) = l.length + 1 := by simp
    have o := h.one ⟨h0, by omega⟩ (h2 c List.mem_cons_self)
    have r := ih o.1 (by rw [o.2]; omega) (by rw [o.2]; omega) (fun d hd => h2 d (List.mem_cons_of_mem _ hd))
    refine ⟨r.1, ?_⟩
    show mi (ranD l (ranC A c)) 22 1 = _
    rw [r.2, o.2]
    omega
theorem ranD_im : ∀ (l : List Int) {A : AM}, IM A → mi A 22 1 + l.length ≤ 100 → (∀ c ∈ l, 0 ≤ c ∧ c ≤ 100) → IM (ranD l A) ∧ (ranD l A).2 = A.2 ∧ ∀ o j, ¬ (o = 22 ∧ j = 1) → o ≠ 23 → mi (ranD l A) o j = mi A o j := by
  intro l
  induction l with
  | nil => intro A h _ _; exact ⟨h, rfl, fun _ _ _ _ => rfl⟩
  | cons c l ih =>
    intro A h h1 h2
    have hl : ((c :: l).length : Int) = l.length + 1 := by simp
    have hc := h2 c List.mem_cons_self
    have h0 := h.s 22 1 0 100 (by decide)
    have a : IM (if mi A 22 1 < 24 then si A 23 (mi A 22 1).toNat c else A) := by
      split
      · exact h.cell 0 100 (fun q hq e _ => by revert q; decide) (by decide) hc (by omega) (by decide) (by decide) (by decide) (by decide)
      · exact h
    have b : IM (ranC A c) := a.scal 0 100 (by decide) (by decide) (by omega) (by omega) (by decide) (by decide) (by decide) (by decide)
    have e1 : mi (ranC A c) 22 1 = mi A 22 1 + 1 := mi_si_same _ _ _ (by omega) (by omega)
    have eo : ∀ o j, ¬ (o = 22 ∧ j = 1) → o ≠ 23 → mi (ranC A c) o j = mi A o j := fun o j q1 q2 => by
      unfold ranC
      rw [mi_si_ne _ _ q1]
      split
      · exact mi_si_ne _ _ (fun q => q2 q.1)
      · rfl
    have e2 : (ranC A c).2 = A.2 := by
      unfold ranC
      split <;> rfl
    obtain ⟨r1, r2, r3⟩ := ih b (by rw [e1]; omega) (fun d hd => h2 d (List.mem_cons_of_mem _ hd))
    exact ⟨r1, r2.trans e2, fun o j q1 q2 => (r3 o j q1 q2).trans (eo o j q1 q2)⟩
theorem ranL_im : ∀ (l : List Int) {A : AM}, IM A → mi A 86 76 + l.length ≤ 100 → (∀ c ∈ l, 0 ≤ c ∧ c ≤ 100) → IM (ranL l A) ∧ (ranL l A).2 = A.2 ∧ ∀ o j, ¬ (o = 86 ∧ j = 76) → o ≠ 138 → mi (ranL l A) o j = mi A o j := by
  intro l
  induction l with
  | nil => intro A h _ _; exact ⟨h, rfl, fun _ _ _ _ => rfl⟩
  | cons c l ih =>
    intro A h h1 h2
    have hl : ((c :: l).length : Int) = l.length + 1 := by simp
    have hc := h2 c List.mem_cons_self
    have h0 := h.s 86 76 0 100 (by decide)
    have a : IM (if mi A 86 76 < 24 then si A 138 (mi A 86 76).toNat c else A) := by
      split
      · exact h.cell 0 100 (fun q hq e _ => by revert q; decide) (by decide) hc (by omega) (by decide) (by decide) (by decide) (by decide)
      · exact h
    have b : IM (ranM A c) := a.scal 0 100 (by decide) (by decide) (by omega) (by omega) (by decide) (by decide) (by decide) (by decide)
    have e1 : mi (ranM A c) 86 76 = mi A 86 76 + 1 := mi_si_same _ _ _ (by omega) (by omega)
    have eo : ∀ o j, ¬ (o = 86 ∧ j = 76) → o ≠ 138 → mi (ranM A c) o j = mi A o j := fun o j q1 q2 => by
      unfold ranM
      rw [mi_si_ne _ _ q1]
      split
      · exact mi_si_ne _ _ (fun q => q2 q.1)
      · rfl
    have e2 : (ranM A c).2 = A.2 := by
      unfold ranM
      split <;> rfl
    obtain ⟨r1, r2, r3⟩ := ih b (by rw [e1]; omega) (fun d hd => h2 d (List.mem_cons_of_mem _ hd))
    exact ⟨r1, r2.trans e2, fun o j q1 q2 => (r3 o j q1 q2).trans (eo o j q1 q2)⟩
theorem actT_ok {kd what : Int} (hk : 0 ≤ kd ∧ kd ≤ 6) (hw : 0 ≤ what ∧ what ≤ 3) : (actT kd what).length ≤ 100 ∧ ∀ c ∈ actT kd what, 0 ≤ c ∧ c ≤ 100 := by
  rcases (by omega : kd = 0 ∨ kd = 1 ∨ kd = 2 ∨ kd = 3 ∨ kd = 4 ∨ kd = 5 ∨ kd = 6) with rfl | rfl | rfl | rfl | rfl | rfl | rfl <;> rcases (by omega : what = 0 ∨ what = 1 ∨ what = 2 ∨ what = 3) with rfl | rfl | rfl | rfl <;> decide
/-- the two lists that an act makes -/
theorem key_act {m : AM} (h : Inv m) (b what x : Int) : St (actN m b what) ∧ IM (actN m b what) ∧ (actR (actN m b what) b what x).1 = (actR m b what x).1 ∧ Inv (actR (actN m b what) b what x).2 := by
  have k87 := h.i.a 87 0 6 (by decide) b.toNat
  obtain ⟨l, hl, hc, e1, e2, e3⟩ : ∃ l : List Int, l.length ≤ 100 ∧ (∀ c ∈ l, 0 ≤ c ∧ c ≤ 100) ∧ actN m b what = ranD l (si m 22 1 0) ∧ (∀ N, mi N 86 1 = mi m 86 1 → mi N 87 b.toNat = mi m 87 b.toNat → mi N 91 b.toNat = mi m 91 b.toNat → (actR N b what x).2 = ranL l (si N 86 76 0)) ∧ ∀ N, mi N 86 1 = mi m 86 1 → mi N 87 b.toNat = mi m 87 b.toNat → mi N 91 b.toNat = mi m 91 b.toNat → (actR N b what x).1 = (actR m b what x).1 := by
    by_cases c : (0 ≤ b ∧ b < mi m 86 1) ∧ (0 ≤ what ∧ what ≤ 3)
    · have ok := actT_ok k87 c.2
      refine ⟨actT (mi m 87 b.toNat) what, ok.1, ok.2, ?_, fun N a1 a2 a3 => ?_, fun N a1 a2 a3 => ?_⟩
      · unfold actN; rw [if_pos c]
      · unfold actR; rw [a1, if_pos c, a2]
      · unfold actR; rw [a1, if_pos c, if_pos c, a2, a3]
    · refine ⟨[], by decide, by simp, ?_, fun N a1 a2 a3 => ?_, fun N a1 a2 a3 => ?_⟩
      · unfold actN; rw [if_neg c]; rfl
      · unfold actR; rw [a1, if_neg c]; rfl
      · unfold actR; rw [a1, if_neg c, if_neg c]
  have z22 : mi (si m 22 1 0) 22 1 = 0 := mi_si_same _ _ _ (by decide) (by decide)
  have i0 : IM (si m 22 1 0) := h.i.scal 0 100 (by decide) (by decide) (by decide) (by decide) (by decide) (by decide) (by decide) (by decide)
  obtain ⟨i1, p1, o1⟩ := ranD_im l i0 (by rw [z22]; omega) hc
  have w1 : ∀ o j, ¬ (o = 22 ∧ j = 1) → o ≠ 23 → mi (ranD l (si m 22 1 0)) o j = mi m o j := fun o j a1 a2 => (o1 o j a1 a2).trans (mi_si_ne _ _ a1)
  have zz : mi (si (ranD l (si m 22 1 0)) 86 76 0) 86 76 = 0 := mi_si_same _ _ _ (by decide) (by decide)
  have i2 : IM (si (ranD l (si m 22 1 0)) 86 76 0) := i1.scal 0 100 (by decide) (by decide) (by decide) (by decide) (by decide) (by decide) (by decide) (by decide)
  have t0 : TR (si m 22 1 0) (si (ranD l (si m 22 1 0)) 86 76 0) := ⟨by rw [z22, zz], fun j hj => by rw [mi_si_ne _ _ (by omega), mi_si_ne _ _ (by omega), w1 _ _ (by omega) (by omega)]; exact h.ka.2 j hj⟩
  have T := TR.list l t0 (by rw [z22]; decide) (by rw [z22]; omega) hc
  obtain ⟨i3, p3, o3⟩ := ranL_im l i2 (by rw [zz]; omega) hc
  rw [e1, e2 _ (w1 _ _ (by omega) (by omega)) (w1 _ _ (by omega) (by omega)) (w1 _ _ (by omega) (by omega)), e3 _ (w1 _ _ (by omega) (by omega)) (w1 _ _ (by omega) (by omega)) (w1 _ _ (by omega) (by omega))]
  have P1 : (ranD l (si m 22 1 0)).2 = m.2 := p1
  have P3 : (ranL l (si (ranD l (si m 22 1 0)) 86 76 0)).2 = m.2 := p3.trans P1
  have w : ∀ o j, ¬ (o = 22 ∧ j = 1) → o ≠ 23 → ¬ (o = 86 ∧ j = 76) → o ≠ 138 → mi (ranL l (si (ranD l (si m 22 1 0)) 86 76 0)) o j = mi m o j := fun o j a1 a2 a3 a4 => (o3 o j a3 a4).trans ((mi_si_ne _ _ a3).trans (w1 o j a1 a2))
  have ka : KA (ranL l (si (ranD l (si m 22 1 0)) 86 76 0)) := ⟨by
    rw [← T.1.1, o3 22 1 (by omega) (by omega), mi_si_ne _ _ (by omega)], fun j hj => by
    rw [← T.1.2 j hj, o3 23 j (by omega) (by omega), mi_si_ne _ _ (by omega)]⟩
  refine ⟨shc_st h.s (congrArg (fun q => q.2) P1), i1, rfl, ?_⟩
  generalize ranL l (si (ranD l (si m 22 1 0)) 86 76 0) = N at i3 P3 w ka
  have P4 : N.2.2 = m.2.2 := congrArg (fun q => q.2) P3
  have eml : ∀ c j, ml N c j = ml m c j := fun c j => congrArg (fun q : (Nat → Nat → Int) × _ => (zl (q.1 c j)).toInt) P3
  have v : QV m N := QV.mk0 P4 (fun c j hc => w c j (fun z => hc (by unfold NV; omega)) (fun z => hc (by unfold NV; omega)) (fun z => hc (by unfold NV; omega)) (fun z => hc (by unfold NV; omega)))
  refine h.qv v (h.1.1.fr (v.st h.s) i3 (fun c j hc => ?_)) (fun c j hc => w c j (by omega) (by omega) (by omega) (by omega)) (h.k4.fr (fun c j hc => w c j (by omega) (by omega) (by omega) (by omega))) (h.k5.fr (fun c j hc => w c j (by omega) (by omega) (by omega) (by omega))) (h.k6.fr (fun c j hc => w c j (by omega) (by omega) (by omega) (by omega))) (h.k7.fr (fun c j hc => w c j (by omega) (by omega) (by omega) (by omega)) (fun c j _ => eml c j)) (h.k8.fr (fun c j hc => w c j (by omega) (by omega) (by omega) (by omega))) (h.k9.fr (fun c j hc => w c j (by omega) (by omega) (by omega) (by omega))) ka
  rcases hc with q | q
  · have := (by decide : ∀ c ∈ riL, 88 ≤ c ∧ c ≤ 114) c q
    exact w c j (by omega) (by omega) (by omega) (by omega)
  · exact w c j (by omega) (by omega) (by omega) (by omega)
theorem ag_act {G : QW} {m : AM} {b w x : Int} (hT : TB G) (h : Inv m) (hb1 : -2147483648 ≤ b) (hb2 : b < 2147483648) (hw1 : -2147483648 ≤ w) (hw2 : w < 2147483648) : AG G mX11_act mX12_act 16 9 0 0 [vI b, vI w, vI x] m :=
  (cr_act hT h.1 hb1 hb2 hw1 hw2).mono (fun r N q => by
    obtain ⟨rfl, rfl⟩ := q
    obtain ⟨k1, k2, k3, k4⟩ := key_act h b w x
    exact ⟨_, rfl, rfl, k1, (ct_X12_act k1 k2 hb1 hb2 hw1 hw2).mono (fun r2 N2 p => by
      obtain ⟨rfl, rfl⟩ := p
      exact ⟨by rw [k3], k4⟩)⟩)

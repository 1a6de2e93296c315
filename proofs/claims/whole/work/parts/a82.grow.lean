/-! what grows: a new box, a new flight, put into row q at place j0; S: cells that are written besides -/
def GV (m N : AM) (q j0 : Nat) (S : Nat → Nat → Prop) : Prop := mz m ≤ mz N ∧ (∀ p, p < mz m → mk N p = mk m p ∧ mn N p = mn m p) ∧ (∀ p j, p < mz m → ¬ (p = q ∧ j = j0) → mr N p j = mr m p j) ∧ (∀ p j, p < mz m → ¬ S p j → mi N p j = mi m p j) ∧ ∀ p j, p < mz m → ml N p j = ml m p j
theorem GV.st {m N : AM} {q j0 : Nat} {S : Nat → Nat → Prop} (h : GV m N q j0 S) (hq : q = 3 ∨ q = 4) (hS : St m) : St N := by
  have h145 := hS.1
  refine ⟨Nat.le_trans hS.1 h.1, fun n hn => ⟨(h.2.1 n (by omega)).1.trans (hS.2.1 n hn).1, (h.2.1 n (by omega)).2.trans (hS.2.1 n hn).2⟩, fun r hr => ?_⟩
  have k := (by decide +kernel : ∀ r ∈ rL, r.1 < 145 ∧ r.1 ≠ 3 ∧ r.1 ≠ 4) r hr
  exact (h.2.2.1 r.1 r.2.1 (by omega) (by omega)).trans (hS.2.2 r hr)
theorem GV.ob {m N : AM} {q j0 : Nat} {S : Nat → Nat → Prop} (h : GV m N q j0 S) {a c : Nat} {fs : List (Nat × Nat × Nat × Nat)} (ha : a ≠ q) (hO : ObA m a c fs) : ObA N a c fs :=
  ⟨Nat.lt_of_lt_of_le hO.1 h.1, (h.2.1 a hO.1).1.trans hO.2.1, fun r hr => by
    have t := hO.2.2 r hr
    exact ⟨(h.2.2.1 a r.1 hO.1 (fun z => ha z.1)).trans t.1, Nat.lt_of_lt_of_le t.2.1 h.1, (h.2.1 _ t.2.1).1.trans t.2.2.1, (h.2.1 _ t.2.1).2.trans t.2.2.2⟩⟩
theorem GV.c {m N : AM} {q j0 : Nat} {S : Nat → Nat → Prop} (h : GV m N q j0 S) (hS : St m) {c j : Nat} (hc : c < 145) (hn : ¬ S c j) : mi N c j = mi m c j := h.2.2.2.1 c j (by have := hS.1; omega) hn
theorem GV.bxe {m N : AM} {q j0 : Nat} {S : Nat → Nat → Prop} (h : GV m N q j0 S) (hS : St m) {b : Int} (hb : ¬ (q = 3 ∧ b.toNat = j0)) : bx N b = bx m b := by
  unfold bx
  rw [h.2.2.1 3 _ (by have := hS.1; omega) (by omega)]
theorem GV.fle {m N : AM} {q j0 : Nat} {S : Nat → Nat → Prop} (h : GV m N q j0 S) (hS : St m) {b : Int} (hb : ¬ (q = 4 ∧ b.toNat = j0)) : fl N b = fl m b := by
  unfold fl
  rw [h.2.2.1 4 _ (by have := hS.1; omega) (by omega)]
theorem GV.pge {m N : AM} {q j0 : Nat} {S : Nat → Nat → Prop} (h : GV m N q j0 S) (hq : q = 3 ∨ q = 4) {b : Int} (e : bx N b = bx m b) (h1 : 145 ≤ bx m b) (h2 : bx m b < mz m) : pg N b = pg m b := by
  unfold pg
  rw [e, h.2.2.1 (bx m b) 4 h2 (by omega)]
theorem K0.pz {m : AM} (h : K0 m) (hS : St m) {b : Int} (hb : 0 ≤ b ∧ b < mi m 0 16) : pg m b + 6 ≤ mz m := by
  have := hS.1
  rcases (h.1 b hb.1 hb.2).2.2 with e | ⟨c, c0, c1, e⟩
  · omega
  · have := (h.1 c c0 c1).2.1
    omega
theorem GV.agB {m N : AM} {q j0 : Nat} {S : Nat → Nat → Prop} (h : GV m N q j0 S) (hq : q = 3 ∨ q = 4) (hS : St m) (hS2 : ∀ p j, S p j → p = 0 ∨ (86 ≤ p ∧ p ≤ 104)) {W : ZW} {b : Int} (hb : ¬ (q = 3 ∧ b.toNat = j0)) (h1 : bx m b + 9 ≤ mz m) (h2 : pg m b + 6 ≤ mz m) (ha : AgB m W b) : AgB N W b := by
  obtain ⟨⟨a1, a2, a3, a4⟩, ⟨b1, b2⟩, c, d, e', f, g, i⟩ := ha
  have eb := h.bxe hS hb
  have ep := h.pge hq eb b1 (by omega)
  have e : ∀ p j : Nat, (bx m b ≤ p ∧ p < bx m b + 9) ∨ (pg m b ≤ p ∧ p ≤ pg m b + 5) → mi N p j = mi m p j := fun p j hp => h.2.2.2.1 p j (by omega) (fun z => by have := hS2 p j z; omega)
  unfold AgB
  rw [eb, ep]
  refine ⟨⟨(h.2.2.1 3 _ (by have := hS.1; omega) (by omega)).trans a1, h.ob (by omega) a2, (h.2.2.1 (bx m b) 4 (by omega) (by omega)).trans a3, h.ob (by omega) a4⟩, ⟨b1, b2⟩, ?_, fun j => ?_, fun j h1 h2 => ?_, fun r h1 h2 => ?_, ?_, fun l h1 h2 => (i l h1 h2).fr (fun c j h3 h4 => e c j (by omega))⟩
  · rw [e _ _ (by omega), e _ _ (by omega)]; exact c
  · rw [e _ _ (by omega)]; exact d j
  · rw [e _ _ (by omega)]; exact e' j h1 h2
  · rw [← f r h1 h2]
    unfold FX1_greatestFor
    rw [e _ _ (by omega)]
  · rw [e _ _ (by omega)]; exact g
theorem GV.flg {m N : AM} {q j0 : Nat} {S : Nat → Nat → Prop} (h : GV m N q j0 S) (hq : q = 3 ∨ q = 4) (hS2 : ∀ p j, S p j → p = 0 ∨ (86 ≤ p ∧ p ≤ 104)) {a : Nat} (h1 : a + 9 ≤ mz m) (f : FLG m a) : FLG N a := by
  obtain ⟨a1, a2, a3, a4, a5, a6, a7, a8⟩ := f
  have e : ∀ r j : Nat, r < 9 → mi N (a + r) j = mi m (a + r) j := fun r j hr => h.2.2.2.1 _ j (by omega) (fun z => by have := hS2 _ j z; omega)
  refine ⟨h.ob (by omega) a1, a2, fun k hk => ?_, fun j => ?_, fun j => ?_, fun j => ?_, fun j => ?_, fun k hk j => ?_⟩
  · have t := a3 k hk
    exact ⟨(h.2.2.1 _ _ (by omega) (by omega)).trans t.1, Nat.lt_of_lt_of_le t.2.1 h.1, (h.2.1 _ t.2.1).1.trans t.2.2.1, (h.2.1 _ t.2.1).2.trans t.2.2.2⟩
  · rw [e _ _ (by omega)]; exact a4 j
  · rw [e _ _ (by omega)]; exact a5 j
  · rw [e _ _ (by omega)]; exact a6 j
  · rw [e _ _ (by omega)]; exact a7 j
  · rw [Nat.add_assoc, e _ _ (by omega), ← Nat.add_assoc]; exact a8 k hk j
theorem RP.up {m N : AM} (h : RP m) (e : ∀ c j : Nat, (133 ≤ c ∧ c ≤ 136) ∨ (c = 86 ∧ j = 70) → mi N c j = mi m c j) (e1 : mi m 86 1 ≤ mi N 86 1) (e21 : mi m 86 21 ≤ mi N 86 21) : RP N := fun p h0 h1 => by
  rw [e 86 70 (by omega)] at h1
  have q := h p h0 h1
  rw [e 133 _ (by omega), e 134 _ (by omega), e 135 _ (by omega), e 136 _ (by omega), e 136 _ (by omega)]
  refine ⟨fun z => ?_, fun z => ?_, q.2.2⟩
  · have w := q.1 z
    exact ⟨⟨w.1.1, by omega⟩, w.2.1, by omega, w.2.2.2⟩
  · rcases q.2.1 z with w | w
    · exact Or.inl ⟨w.1, by omega⟩
    · exact Or.inr w
theorem KQ.gv {m N : AM} {q j0 : Nat} {S : Nat → Nat → Prop} (k : KQ m) (k0 : K0 m) (hS : St m) (h : GV m N q j0 S) (hq : q = 3 ∨ q = 4) : KQ N := fun s hs => by
  rw [h.2.2.1 0 15 (by have := hS.1; omega) (by omega)] at hs
  have := k0.sp hs
  exact h.ob (by omega) (k s hs)
/-- what a flight's or a box's coming leaves alone -/
theorem GV.rest {m N : AM} {q j0 : Nat} {S : Nat → Nat → Prop} (h : GV m N q j0 S) (hq : q = 3 ∨ q = 4) (hS : St m) (hS2 : ∀ p j, S p j → (p = 0 ∧ (j = 16 ∨ j = 17)) ∨ (p = 86 ∧ (j = 1 ∨ j = 21)) ∨ (87 ≤ p ∧ p ≤ 89) ∨ (101 ≤ p ∧ p ≤ 104)) (hI : Inv m) : (RC N 24 ∧ RC N 32 ∧ RC N 40) ∧ CR N ∧ FLG N 48 ∧ K4 N ∧ K5 N ∧ K6 N ∧ K7 N ∧ K8 N ∧ K9 N ∧ KA N ∧ KT N := by
  have h145 := hS.1
  have e : ∀ c j : Nat, c < 145 → ¬ ((c = 0 ∧ (j = 16 ∨ j = 17)) ∨ (c = 86 ∧ (j = 1 ∨ j = 21)) ∨ (87 ≤ c ∧ c ≤ 89) ∨ (101 ≤ c ∧ c ≤ 104)) → mi N c j = mi m c j := fun c j a b => h.c hS a (fun z => b (hS2 c j z))
  obtain ⟨-, -, -, ⟨c1, c2, c3⟩, cr, fg⟩ := hI.1
  have r : ∀ o, sto o → RC m o → RC N o := fun o ho hr => hr.same (fun r j hr => e _ _ (by unfold sto at ho; omega) (by unfold sto at ho; omega))
  refine ⟨⟨r 24 (Or.inl rfl) c1, r 32 (Or.inr (Or.inl rfl)) c2, r 40 (Or.inr (Or.inr rfl)) c3⟩, ⟨fun j => by rw [e _ _ (by omega) (by omega)]; exact cr.1 j, fun j => by rw [e _ _ (by omega) (by omega)]; exact cr.2.1 j, fun j => by rw [e _ _ (by omega) (by omega)]; exact cr.2.2.1 j, by rw [e _ _ (by omega) (by omega)]; exact cr.2.2.2⟩, h.flg hq (fun p j z => by have := hS2 p j z; omega) (by omega) fg, hI.k4.fr (fun c j hc => e c j (by omega) (by omega)), hI.k5.fr (fun c j hc => e c j (by omega) (by omega)), hI.k6.fr (fun c j hc => e c j (by omega) (by omega)), hI.k7.fr (fun c j hc => e c j (by omega) (by omega)) (fun c j hc => h.2.2.2.2 c j (by omega)), hI.k8.fr (fun c j hc => e c j (by omega) (by omega)), hI.k9.fr (fun c j hc => e c j (by omega) (by omega)), hI.ka.fr (fun c j hc => e c j (by omega) (by omega)), hI.kt.fr (fun j => e 52 j (by omega) (by omega))⟩

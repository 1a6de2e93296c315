/-! frames: what a call leaves, piece by piece -/
theorem IM.rg {m N : AM} (h : IM m) (hs : ∀ q ∈ imS, mi N q.1 q.2.1 = mi m q.1 q.2.1 ∨ (q.2.2.1 ≤ mi N q.1 q.2.1 ∧ mi N q.1 q.2.1 ≤ q.2.2.2)) (ha : ∀ q ∈ imA, ∀ j : Nat, mi N q.1 j = mi m q.1 j ∨ (q.2.1 ≤ mi N q.1 j ∧ mi N q.1 j ≤ q.2.2)) (hl : ∀ j : Nat, j < 6 → mi N 139 j < mi N 86 1 ∧ mi N (68 + 3 * j) 2 < mi N 0 16) : IM N := by
  refine ⟨fun q hq => ?_, fun q hq j => ?_, hl⟩
  · rcases hs q hq with e | e
    · rw [e]; exact h.1 q hq
    · exact e
  · rcases ha q hq j with e | e
    · rw [e]; exact h.2.1 q hq j
    · exact e
theorem RA.fr {m N : AM} (h : RA m) (hS : St N) (hI : IM N) (e : ∀ c j : Nat, c ∈ riL ∨ c = 88 ∨ c = 123 ∨ c = 124 ∨ (133 ≤ c ∧ c ≤ 136) ∨ (c = 86 ∧ (j = 1 ∨ j = 21 ∨ j = 70 ∨ (35 ≤ j ∧ j ≤ 45))) → mi N c j = mi m c j) : RA N := by
  obtain ⟨⟨h1, h2, h3⟩, h4⟩ := h
  refine ⟨⟨h1.ext hS hI (fun o ho j => e _ _ (Or.inl ho)) (fun k hk => ?_), ?_, ?_⟩, ?_⟩
  · have q := (by decide : ∀ k ∈ riK, k = 1 ∨ k = 21 ∨ k = 70 ∨ (35 ≤ k ∧ k ≤ 45)) k hk
    exact e 86 k (by omega)
  · intro b s
    rw [e 86 1 (by omega), e 88 _ (by omega)]
    exact h2 b s
  · intro j
    rw [e 123 _ (by omega), e 124 _ (by omega)]
    exact h3 j
  · intro p
    rw [e 86 70 (by omega), e 86 1 (by omega), e 86 21 (by omega), e 133 _ (by omega), e 134 _ (by omega), e 135 _ (by omega), e 136 _ (by omega), e 136 _ (by omega)]
    exact h4 p
/-- cells that calls other than those on boxes and flights may write -/
def NV (c j : Nat) : Prop := NQ c j ∨ (1 ≤ c ∧ c ≤ 2) ∨ (6 ≤ c ∧ c ≤ 11) ∨ (13 ≤ c ∧ c ≤ 14) ∨ (22 ≤ c ∧ c ≤ 23) ∨ (68 ≤ c ∧ c ≤ 85) ∨ c = 100 ∨ c = 123 ∨ c = 124 ∨ (133 ≤ c ∧ c ≤ 144) ∨ (c = 86 ∧ (j = 16 ∨ j = 70 ∨ j = 76))
def QV (m N : AM) : Prop := N.2.2.2 = m.2.2.2 ∧ (∀ c k : Nat, ¬ (c = 17 ∧ 4 ≤ k ∧ k ≤ 6) → mr N c k = mr m c k) ∧ (∀ c j : Nat, ¬ NV c j → mi N c j = mi m c j)
theorem QV.zz {m N : AM} (h : QV m N) : mz N = mz m := congrArg (fun q => q.2.2) h.1
theorem QV.kk {m N : AM} (h : QV m N) : mk N = mk m := congrArg (fun q => q.1) h.1
theorem QV.nn {m N : AM} (h : QV m N) : mn N = mn m := congrArg (fun q => q.2.1) h.1
theorem QV.st {m N : AM} (h : QV m N) (hS : St m) : St N := by
  refine ⟨by rw [h.zz]; exact hS.1, fun n hn => by rw [h.kk, h.nn]; exact hS.2.1 n hn, fun q hq => ?_⟩
  rw [h.2.1 q.1 q.2.1 (fun e => (by decide +kernel : ∀ q ∈ rL, ¬ (q.1 = 17 ∧ 4 ≤ q.2.1 ∧ q.2.1 ≤ 6)) q hq e)]
  exact hS.2.2 q hq
theorem QV.ob {m N : AM} (h : QV m N) {a c : Nat} {fs : List (Nat × Nat × Nat × Nat)} (ha : a ≠ 17) (hO : ObA m a c fs) : ObA N a c fs := by
  refine ⟨by rw [h.zz]; exact hO.1, by rw [h.kk]; exact hO.2.1, fun q hq => ?_⟩
  rw [h.2.1 a q.1 (fun e => ha e.1), h.zz, h.kk, h.nn]
  exact hO.2.2 q hq
theorem QV.wn {m N : AM} (h : QV m N) : wN N = wN m := by
  refine wN_rows (fun o ho j => h.2.2 o j ?_) (h.2.2 86 1 (by unfold NV NQ; omega))
  exact fun q => (by decide : ∀ o ∈ ([87, 88, 89, 91, 92, 93, 94, 95, 96, 97, 98, 99] : List Nat), 87 ≤ o ∧ o ≤ 99) o ho |> fun z => by unfold NV NQ at q; omega
theorem QV.bxe {m N : AM} (h : QV m N) (b : Int) : bx N b = bx m b := by
  unfold bx
  rw [h.2.1 3 _ (fun e => absurd e.1 (by decide))]
theorem QV.fle {m N : AM} (h : QV m N) (b : Int) : fl N b = fl m b := by
  unfold fl
  rw [h.2.1 4 _ (fun e => absurd e.1 (by decide))]
theorem QV.pge {m N : AM} (h : QV m N) {b : Int} (hb : 145 ≤ bx m b) : pg N b = pg m b := by
  unfold pg
  rw [h.bxe b, h.2.1 (bx m b) 4 (fun e => by omega)]
theorem nvd {c : Nat} (hc : 145 ≤ c) (j : Nat) : ¬ NV c j := by unfold NV NQ; omega
theorem nvp {c d : Nat} (hc : c = 62 ∨ 145 ≤ c) (hd : d ≤ 5) (j : Nat) : ¬ NV (c + d) j := by unfold NV NQ; omega
theorem nvq {c : Nat} (hc : c = 62 ∨ 145 ≤ c) (j : Nat) : ¬ NV c j := by unfold NV NQ; omega
theorem QV.agL {m N : AM} (h : QV m N) {p : Nat} (hp : p = 62 ∨ 145 ≤ p) {W : ZW} {b l : Int} (ha : AgL m p W b l) : AgL N p W b l := by
  unfold AgL at ha ⊢
  rw [h.2.2 p _ (nvq hp _), h.2.2 p _ (nvq hp _), h.2.2 (p + 2) _ (nvp hp (by decide) _), h.2.2 (p + 3) _ (nvp hp (by decide) _), h.2.2 (p + 4) _ (nvp hp (by decide) _), h.2.2 (p + 5) _ (nvp hp (by decide) _)]
  refine ⟨ha.1, ha.2.1, ha.2.2.1, ha.2.2.2.1, fun j h1 h2 => ?_⟩
  rw [h.2.2 (p + 1) _ (nvp hp (by decide) _)]
  exact ha.2.2.2.2 j h1 h2
theorem QV.agB {m N : AM} (h : QV m N) {W : ZW} {b : Int} (ha : AgB m W b) : AgB N W b := by
  obtain ⟨⟨a1, a2, a3, a4⟩, ⟨b1, b2⟩, c, d, e, f, g, i⟩ := ha
  have k : ∀ j r, mi N (bx m b + r) j = mi m (bx m b + r) j := fun j r => h.2.2 _ j (nvd (by omega) j)
  have k0 : ∀ j, mi N (bx m b) j = mi m (bx m b) j := fun j => h.2.2 _ j (nvd b1 j)
  unfold AgB
  rw [h.bxe b, h.pge b1]
  refine ⟨⟨?_, h.ob (by omega) a2, ?_, h.ob (by omega) a4⟩, ⟨b1, b2⟩, ?_, fun j => ?_, fun j h1 h2 => ?_, fun r h1 h2 => ?_, ?_, fun l h1 h2 => h.agL b2 (i l h1 h2)⟩
  · rw [h.2.1 3 _ (fun e => absurd e.1 (by decide))]; exact a1
  · rw [h.2.1 (bx m b) 4 (fun e => by omega)]; exact a3
  · rw [k0, k0]; exact c
  · rw [k]; exact d j
  · rw [k]; exact e j h1 h2
  · rw [← f r h1 h2]
    unfold FX1_greatestFor
    rw [k]
  · rw [h.2.2 _ 6 (nvq b2 6)]; exact g
theorem QV.k1 {m N : AM} (h : QV m N) (k : K1 m) : K1 N := by
  refine ⟨?_, fun b h0 h1 => ?_⟩
  · rw [h.2.2 0 16 (by unfold NV NQ; omega), h.2.2 86 1 (by unfold NV NQ; omega)]; exact k.1
  · rw [h.2.2 86 1 (by unfold NV NQ; omega)] at h1
    have q := k.2 b h0 h1
    rw [h.wn]
    refine ⟨h.agB q.1, ?_⟩
    rw [h.bxe, h.2.2 _ 5 (nvd q.1.2.1.1 5), h.2.2 90 _ (by unfold NV NQ; omega)]
    exact q.2
theorem QV.flg {m N : AM} (h : QV m N) {a : Nat} (ha : 145 ≤ a) (f : FLG m a) : FLG N a := by
  obtain ⟨a1, a2, a3, a4, a5, a6, a7, a8⟩ := f
  have k : ∀ r j, mi N (a + r) j = mi m (a + r) j := fun r j => h.2.2 _ j (nvd (by omega) j)
  refine ⟨h.ob (by omega) a1, a2, fun i hi => ?_, fun j => ?_, fun j => ?_, fun j => ?_, fun j => ?_, fun i hi j => ?_⟩
  · rw [h.2.1 (a + 5) i (fun e => by omega), h.zz, h.kk, h.nn]; exact a3 i hi
  · rw [k]; exact a4 j
  · rw [k]; exact a5 j
  · rw [k]; exact a6 j
  · rw [k]; exact a7 j
  · rw [Nat.add_assoc, k, ← Nat.add_assoc]; exact a8 i hi j
theorem QV.k2 {m N : AM} (h : QV m N) (k : K2 m) : K2 N := by
  refine ⟨?_, fun f h0 h1 => ?_⟩
  · rw [h.2.2 0 17 (by unfold NV NQ; omega), h.2.2 86 21 (by unfold NV NQ; omega)]; exact k.1
  · rw [h.2.2 86 21 (by unfold NV NQ; omega)] at h1
    obtain ⟨⟨q1, q2⟩, q3, q4⟩ := k.2 f h0 h1
    have e : ∀ r j, mi N (fl m f + r) j = mi m (fl m f + r) j := fun r j => h.2.2 _ j (nvd (by omega) j)
    unfold AgF
    rw [h.fle f, h.2.1 4 _ (fun e => absurd e.1 (by decide))]
    refine ⟨⟨q1, q2⟩, h.flg q2 q3, fun i hi => ?_⟩
    obtain ⟨r1, r2, r3, r4, r5⟩ := q4 i hi
    rw [e, e, e, e, h.2.2 101 _ (by unfold NV NQ; omega), h.2.2 102 _ (by unfold NV NQ; omega), h.2.2 103 _ (by unfold NV NQ; omega), h.2.2 104 _ (by unfold NV NQ; omega)]
    refine ⟨r1, r2, r3, r4, fun j hj => ?_⟩
    rw [Nat.add_assoc, e, ← Nat.add_assoc, h.2.2 105 _ (by unfold NV NQ; omega)]
    exact r5 j hj
theorem QV.k0 {m N : AM} (h : K0 m) (q : QV m N) : K0 N := by
  have e16 : mi N 0 16 = mi m 0 16 := q.2.2 0 16 (by unfold NV NQ; omega)
  have e17 : mi N 0 17 = mi m 0 17 := q.2.2 0 17 (by unfold NV NQ; omega)
  have eb : ∀ b, bx N b = bx m b := q.bxe
  have ef : ∀ f, fl N f = fl m f := q.fle
  have ep : ∀ b, 0 ≤ b → b < mi m 0 16 → pg N b = pg m b := fun b h0 h1 => q.pge (h.1 b h0 h1).1
  have e15 : mr N 0 15 = mr m 0 15 := q.2.1 0 15 (fun z => absurd z.1 (by decide))
  obtain ⟨h1, h2, h3, h4, h5, z, h6, h7, h8⟩ := h
  unfold K0
  simp only [e16, e17, eb, ef, e15, q.zz]
  refine ⟨fun b b0 b1 => by rw [ep b b0 b1]; exact h1 b b0 b1, fun b c b0 b1 c0 c1 hc => by rw [ep b b0 b1, ep c c0 c1]; exact h2 b c b0 b1 c0 c1 hc, h3, h4, h5, z, h6, ?_, fun b b0 b1 => by rw [ep b b0 b1]; exact h8 b b0 b1⟩
  exact h7
theorem QV.k3 {m N : AM} (hQ : QR m) (k3 : K3 m) (f : QV m N) : K3 N := by
  have e16 : mi N 0 16 = mi m 0 16 := f.2.2 0 16 (by unfold NV NQ; omega)
  intro b h0 h1
  rw [e16] at h1
  have B := (hQ.2.1.2 b h0 (by rw [← hQ.2.1.1]; exact h1)).1
  have g := k3 b h0 h1
  rw [f.pge B.2.1.1, f.2.2 (pg m b) 5 (nvq B.2.1.2 5), f.wn]
  exact g
theorem QV.kb {m N : AM} (kb : KB m) (f : QV m N) : KB N := by
  intro b h0 h1
  rw [f.2.2 86 1 (by unfold NV NQ; omega)] at h0
  rw [f.2.2 91 _ (by unfold NV NQ; omega), f.2.2 90 _ (by unfold NV NQ; omega)]
  exact kb b h0 h1
theorem QV.kz {m N : AM} (k0 : K0 m) (kz : KZ m) (f : QV m N) : KZ N := by
  have e16 : mi N 0 16 = mi m 0 16 := f.2.2 0 16 (by unfold NV NQ; omega)
  unfold KZ at *
  rw [f.zz, e16, f.2.2 0 17 (by unfold NV NQ; omega)]
  refine ⟨⟨kz.1.1, fun q hq => by
    rw [f.2.1 0 15 (by omega)] at hq
    have := k0.sp hq
    exact f.ob (by omega) (kz.1.2 q hq)⟩, kz.2.fr e16 f.bxe (fun b h0 h1 s hs => ?_) (fun j => f.2.2 88 j (by unfold NV NQ; omega))⟩
  have B := (k0.1 b h0 h1).1
  exact f.2.2 _ _ (by unfold NV NQ; omega)
theorem K4.fr {m N : AM} (k : K4 m) (e : ∀ c j : Nat, c = 13 ∨ c = 14 ∨ c = 123 ∨ c = 124 → mi N c j = mi m c j) : K4 N := fun j hj => by
  rw [e 13 j (by omega), e 14 j (by omega), e 123 j (by omega), e 124 j (by omega)]
  exact k j hj
theorem K5.fr {m N : AM} (k : K5 m) (e : ∀ c j : Nat, (c = 1 ∧ j = 1) ∨ c = 2 ∨ c = 100 ∨ (c = 86 ∧ j = 16) → mi N c j = mi m c j) : K5 N := by
  unfold K5 at *
  rw [e 1 1 (by omega), e 86 16 (by omega)]
  refine ⟨k.1, fun j hj => ?_⟩
  rw [e 100 j (by omega), e 2 j (by omega)]
  exact k.2 j hj
theorem K6.fr {m N : AM} (k : K6 m) (e : ∀ c j : Nat, (c = 6 ∧ j = 5) ∨ (7 ≤ c ∧ c ≤ 11) ∨ (133 ≤ c ∧ c ≤ 137) ∨ (c = 86 ∧ j = 70) → mi N c j = mi m c j) : K6 N := by
  unfold K6 alG at *
  have e' : ∀ c j, (7 ≤ c ∧ c ≤ 11) ∨ (133 ≤ c ∧ c ≤ 137) → mi N c j = mi m c j := fun c j q => e c j (by omega)
  rw [e 86 70 (by omega), e 6 5 (by omega)]
  simp only [e' 7 _ (by decide), e' 8 _ (by decide), e' 9 _ (by decide), e' 10 _ (by decide), e' 11 _ (by decide), e' 133 _ (by decide), e' 134 _ (by decide), e' 135 _ (by decide), e' 136 _ (by decide), e' 137 _ (by decide)]
  exact k
theorem K7.fr {m N : AM} (k : K7 m) (e : ∀ c j : Nat, (68 ≤ c ∧ c ≤ 85) ∨ (139 ≤ c ∧ c ≤ 142) → mi N c j = mi m c j) (el : ∀ c j : Nat, (68 ≤ c ∧ c ≤ 85) ∨ c = 141 → ml N c j = ml m c j) : K7 N := by
  intro s hs
  have g := k s hs
  unfold K7s at *
  rw [e (68 + 3 * s) 3 (by omega), e (68 + 3 * s) 2 (by omega), e (68 + 3 * s) 4 (by omega), e 140 s (by omega), e 139 s (by omega)]
  refine ⟨fun q => ⟨(g.1 q).1, (g.1 q).2.1, fun i hi => ?_⟩, g.2⟩
  rw [el (68 + 3 * s + 1) i (by omega), el 141 (60 * s + i) (by omega), e (68 + 3 * s + 2) i (by omega), e 142 (60 * s + i) (by omega)]
  exact (g.1 q).2.2 i hi
theorem K8.fr {m N : AM} (k8 : K8 m) (e : ∀ c j : Nat, (24 ≤ c ∧ c ≤ 31) ∨ (c = 0 ∧ j = 18) ∨ (c = 86 ∧ (j = 50 ∨ j = 51)) ∨ (116 ≤ c ∧ c ≤ 122) → mi N c j = mi m c j) : K8 N := by
  unfold K8 at *
  rw [e 86 50 (by decide), e 0 18 (by decide), e 86 51 (by decide)]
  refine k8.imp id (fun q => ⟨q.1, q.2.1, ?_⟩)
  obtain ⟨S, a, b, c⟩ := q.2.2
  refine ⟨S, a.same (fun r j hr => e _ _ (by omega)), b.same (e _ _ (by decide)) (fun j => e _ _ (by omega)), ?_⟩
  have ee : ∀ c j, 116 ≤ c → c ≤ 122 → mi N c j = mi m c j := fun c j a b => e c j (by omega)
  unfold JR at *
  simp only [ee _ _ (show 116 ≤ 116 by decide) (show 116 ≤ 122 by decide), ee _ _ (show 116 ≤ 117 by decide) (show 117 ≤ 122 by decide), ee _ _ (show 116 ≤ 118 by decide) (show 118 ≤ 122 by decide), ee _ _ (show 116 ≤ 119 by decide) (show 119 ≤ 122 by decide), ee _ _ (show 116 ≤ 120 by decide) (show 120 ≤ 122 by decide), ee _ _ (show 116 ≤ 121 by decide) (show 121 ≤ 122 by decide), ee _ _ (show 116 ≤ 122 by decide) (show 122 ≤ 122 by decide)]
  exact c
theorem K9.fr {m N : AM} (k9 : K9 m) (e : ∀ c j : Nat, (c = 0 ∧ j = 19) ∨ (c = 86 ∧ j = 62) ∨ c = 57 ∨ c = 125 → mi N c j = mi m c j) : K9 N := by
  unfold K9 at *
  rw [e 0 19 (by decide), e 86 62 (by decide)]
  refine ⟨k9.1, fun j hj => ?_⟩
  rw [e 57 j (by omega), e 125 j (by omega)]
  exact k9.2 j hj
theorem KA.fr {m N : AM} (ka : KA m) (e : ∀ c j : Nat, (c = 22 ∧ j = 1) ∨ (c = 86 ∧ j = 76) ∨ c = 23 ∨ c = 138 → mi N c j = mi m c j) : KA N := by
  unfold KA at *
  rw [e 22 1 (by decide), e 86 76 (by decide)]
  refine ⟨ka.1, fun j hj => ?_⟩
  rw [e 23 j (by omega), e 138 j (by omega)]
  exact ka.2 j hj
theorem KT.fr {m N : AM} (k : KT m) (e : ∀ j : Nat, mi N 52 j = mi m 52 j) : KT N := fun j hj => by rw [e]; exact k j hj
/-- the ground without what the reference holds of it -/
theorem QV.qr {m N : AM} (h : QR m) (v : QV m N) (ra : RA N) (e : ∀ c j : Nat, (17 ≤ c ∧ c ≤ 20) ∨ (24 ≤ c ∧ c ≤ 56) → mi N c j = mi m c j) : QR N := by
  have r : ∀ o, sto o → RC m o → RC N o := fun o ho hr => hr.same (fun r j hr => e _ _ (by unfold sto at ho; omega))
  obtain ⟨-, k1, k2, ⟨c1, c2, c3⟩, cr, ⟨a1, a2, a3, a4, a5, a6, a7, a8⟩⟩ := h
  refine ⟨ra, v.k1 k1, v.k2 k2, ⟨r 24 (Or.inl rfl) c1, r 32 (Or.inr (Or.inl rfl)) c2, r 40 (Or.inr (Or.inr rfl)) c3⟩, ⟨fun j => by rw [e _ _ (by omega)]; exact cr.1 j, fun j => by rw [e _ _ (by omega)]; exact cr.2.1 j, fun j => by rw [e _ _ (by omega)]; exact cr.2.2.1 j, by rw [e _ _ (by omega)]; exact cr.2.2.2⟩, ?_⟩
  refine ⟨v.ob (by decide) a1, a2, fun i hi => ?_, fun j => ?_, fun j => ?_, fun j => ?_, fun j => ?_, fun i hi j => ?_⟩
  · rw [v.2.1 (48 + 5) i (fun e => by omega), v.zz, v.kk, v.nn]; exact a3 i hi
  · rw [e _ _ (by omega)]; exact a4 j
  · rw [e _ _ (by omega)]; exact a5 j
  · rw [e _ _ (by omega)]; exact a6 j
  · rw [e _ _ (by omega)]; exact a7 j
  · rw [e _ _ (by omega)]; exact a8 i hi j
theorem QV.mk0 {m N : AM} (e : N.2.2 = m.2.2) (ec : ∀ c j : Nat, ¬ NV c j → mi N c j = mi m c j) : QV m N := ⟨congrArg (fun q => q.2) e, fun c k _ => congrArg (fun q => q.1 c k) e, ec⟩
/-- ranges hold when one shelf is written -/
theorem IM.sh1 {m N : AM} {s : Nat} (hs : s < 6) (h : IM m) (ec : ∀ c j : Nat, c ≠ 144 → ¬ (68 + 3 * s ≤ c ∧ c ≤ 70 + 3 * s) → ¬ (c = 139 ∧ j = s) → ¬ (c = 140 ∧ j = s) → ¬ (c = 142 ∧ 60 * s ≤ j ∧ j < 60 * s + 60) → mi N c j = mi m c j) (r2 : -1 ≤ mi N (68 + 3 * s) 2 ∧ mi N (68 + 3 * s) 2 < mi m 0 16) (r3 : -1 ≤ mi N (68 + 3 * s) 3 ∧ mi N (68 + 3 * s) 3 ≤ 4) (r4 : 0 ≤ mi N (68 + 3 * s) 4 ∧ mi N (68 + 3 * s) 4 ≤ 60) (a3 : 0 ≤ mi N 140 s ∧ mi N 140 s ≤ 60) (r5 : ∀ j, 0 ≤ mi N (70 + 3 * s) j ∧ mi N (70 + 3 * s) j ≤ 1) (r6 : ∀ j, 0 ≤ mi N 142 j ∧ mi N 142 j ≤ 1) (r7 : ∀ j, 0 ≤ mi N 144 j ∧ mi N 144 j ≤ 1) (a2 : -6 ≤ mi N 139 s ∧ mi N 139 s ≤ 5 ∧ mi N 139 s < mi m 86 1) : IM N := by
  have e16 : mi N 0 16 = mi m 0 16 := ec _ _ (by omega) (by omega) (by omega) (by omega) (by omega)
  have e1 : mi N 86 1 = mi m 86 1 := ec _ _ (by omega) (by omega) (by omega) (by omega) (by omega)
  have h16 := h.s 0 16 0 6 (by decide)
  refine h.rg (fun q hq => ?_) (fun q hq j => ?_) (fun j hj => ?_)
  · by_cases c : 68 + 3 * s ≤ q.1 ∧ q.1 ≤ 70 + 3 * s
    · refine Or.inr ?_
      have g := (by decide : ∀ q ∈ imS, 68 ≤ q.1 → q.1 ≤ 85 → q.1 % 3 = 2 ∧ ((q.2.1 = 2 ∧ q.2.2.1 = -1 ∧ q.2.2.2 = 5) ∨ (q.2.1 = 3 ∧ q.2.2.1 = -1 ∧ q.2.2.2 = 4) ∨ (q.2.1 = 4 ∧ q.2.2.1 = 0 ∧ q.2.2.2 = 60))) q hq (by omega) (by omega)
      have g1 : q.1 = 68 + 3 * s := by omega
      rw [g1]
      rcases g.2 with ⟨g2, g3, g4⟩ | ⟨g2, g3, g4⟩ | ⟨g2, g3, g4⟩ <;> rw [g2, g3, g4] <;> omega
    · exact Or.inl (ec _ _ (fun z => (by decide : ∀ q ∈ imS, q.1 ≠ 144) q hq z) c (fun z => (by decide : ∀ q ∈ imS, q.1 ≠ 139) q hq z.1) (fun z => (by decide : ∀ q ∈ imS, q.1 ≠ 140) q hq z.1) (fun z => (by decide : ∀ q ∈ imS, q.1 ≠ 142) q hq z.1))
  · by_cases c : 68 + 3 * s ≤ q.1 ∧ q.1 ≤ 70 + 3 * s
    · refine Or.inr ?_
      have g := (by decide : ∀ q ∈ imA, 68 ≤ q.1 → q.1 ≤ 85 → q.1 % 3 = 1 ∧ q.2.1 = 0 ∧ q.2.2 = 1) q hq (by omega) (by omega)
      have g1 : q.1 = 70 + 3 * s := by omega
      rw [g1, g.2.1, g.2.2]
      exact r5 j
    · by_cases c139 : q.1 = 139 ∧ j = s
      · have g := (by decide : ∀ q ∈ imA, q.1 = 139 → q.2.1 = -6 ∧ q.2.2 = 5) q hq c139.1
        rw [c139.1, c139.2, g.1, g.2]
        exact Or.inr ⟨a2.1, a2.2.1⟩
      · by_cases c140 : q.1 = 140 ∧ j = s
        · have g := (by decide : ∀ q ∈ imA, q.1 = 140 → q.2.1 = 0 ∧ q.2.2 = 60) q hq c140.1
          rw [c140.1, c140.2, g.1, g.2]
          exact Or.inr a3
        · by_cases c142 : q.1 = 142
          · have g := (by decide : ∀ q ∈ imA, q.1 = 142 → q.2.1 = 0 ∧ q.2.2 = 1) q hq c142
            rw [c142, g.1, g.2]
            exact Or.inr (r6 j)
          · by_cases c144 : q.1 = 144
            · have g := (by decide : ∀ q ∈ imA, q.1 = 144 → q.2.1 = 0 ∧ q.2.2 = 1) q hq c144
              rw [c144, g.1, g.2]
              exact Or.inr (r7 j)
            · exact Or.inl (ec _ _ c144 c c139 c140 (fun z => c142 z.1))
  · rw [e1, e16]
    by_cases c : j = s
    · rw [c]; exact ⟨a2.2.2, r2.2⟩
    · rw [ec 139 j (by omega) (by omega) (by omega) (by omega) (by omega), ec (68 + 3 * j) 2 (by omega) (by omega) (by omega) (by omega) (by omega)]
      exact h.2.2 j hj
/-- the class alone has written a shelf -/
theorem IM.shc {m N : AM} {s : Nat} (hs : s < 6) (h : IM m) (ec : ∀ c j : Nat, ¬ (68 + 3 * s ≤ c ∧ c ≤ 70 + 3 * s) → mi N c j = mi m c j) (r2 : -1 ≤ mi N (68 + 3 * s) 2 ∧ mi N (68 + 3 * s) 2 < mi m 0 16) (r3 : -1 ≤ mi N (68 + 3 * s) 3 ∧ mi N (68 + 3 * s) 3 ≤ 4) (r4 : 0 ≤ mi N (68 + 3 * s) 4 ∧ mi N (68 + 3 * s) 4 ≤ 60) (r5 : ∀ j, 0 ≤ mi N (70 + 3 * s) j ∧ mi N (70 + 3 * s) j ≤ 1) : IM N := by
  have a := h.a 139 (-6) 5 (by decide) s
  refine h.sh1 hs (fun c j _ c1 _ _ _ => ec c j c1) r2 r3 r4 (by rw [ec _ _ (by omega)]; exact h.a 140 0 60 (by decide) s) r5 (fun j => by rw [ec _ _ (by omega)]; exact h.a 142 0 1 (by decide) j) (fun j => by rw [ec _ _ (by omega)]; exact h.a 144 0 1 (by decide) j) (by rw [ec _ _ (by omega)]; exact ⟨a.1, a.2, (h.2.2 s hs).1⟩)
/-- one shelf is written, on both sides -/
theorem Inv.sh1 {m N : AM} {s : Nat} (hs : s < 6) (h : Inv m) (e2 : N.2.2 = m.2.2) (ec : ∀ c j : Nat, c ≠ 144 → ¬ (68 + 3 * s ≤ c ∧ c ≤ 70 + 3 * s) → ¬ (c = 139 ∧ j = s) → ¬ (c = 140 ∧ j = s) → ¬ (c = 142 ∧ 60 * s ≤ j ∧ j < 60 * s + 60) → mi N c j = mi m c j) (el : ∀ c j : Nat, c ≠ 143 → c ≠ 69 + 3 * s → ¬ (c = 141 ∧ 60 * s ≤ j ∧ j < 60 * s + 60) → ml N c j = ml m c j) (r2 : -1 ≤ mi N (68 + 3 * s) 2 ∧ mi N (68 + 3 * s) 2 < mi m 0 16) (r3 : -1 ≤ mi N (68 + 3 * s) 3 ∧ mi N (68 + 3 * s) 3 ≤ 4) (r4 : 0 ≤ mi N (68 + 3 * s) 4 ∧ mi N (68 + 3 * s) 4 ≤ 60) (a3 : 0 ≤ mi N 140 s ∧ mi N 140 s ≤ 60) (r5 : ∀ j, 0 ≤ mi N (70 + 3 * s) j ∧ mi N (70 + 3 * s) j ≤ 1) (r6 : ∀ j, 0 ≤ mi N 142 j ∧ mi N 142 j ≤ 1) (r7 : ∀ j, 0 ≤ mi N 144 j ∧ mi N 144 j ≤ 1) (k7 : K7s N s) : Inv N := by
  have h16 := h.i.s 0 16 0 6 (by decide)
  have w : ∀ c j : Nat, ¬ ((68 ≤ c ∧ c ≤ 85) ∨ (139 ≤ c ∧ c ≤ 144)) → mi N c j = mi m c j := fun c j hc => ec c j (by omega) (by omega) (by omega) (by omega) (by omega)
  have v : QV m N := QV.mk0 e2 (fun c j hc => w c j (fun z => hc (by unfold NV; omega)))
  have e11 : mi m 0 16 = mi m 86 1 := h.1.2.1.1
  have a1 : mi N 139 s = if mi N (68 + 3 * s) 3 ≠ -1 then -2 - mi N (68 + 3 * s) 3 else mi N (68 + 3 * s) 2 := k7.2
  have a2 : -6 ≤ mi N 139 s ∧ mi N 139 s ≤ 5 ∧ mi N 139 s < mi m 86 1 := by split at a1 <;> omega
  have i : IM N := h.i.sh1 hs ec r2 r3 r4 a3 r5 r6 r7 a2
  have ra : RA N := h.1.1.fr (v.st h.s) i (fun c j hc => by
    refine w c j ?_
    rcases hc with q | q
    · have := (by decide : ∀ c ∈ riL, 88 ≤ c ∧ c ≤ 114) c q
      omega
    · omega)
  refine ⟨v.qr h.1 ra (fun c j hc => w c j (by omega)), v.k0 h.k0, v.k3 h.1 h.k3, h.k4.fr (fun c j hc => w c j (by omega)), h.k5.fr (fun c j hc => w c j (by omega)), h.k6.fr (fun c j hc => w c j (by omega)), ?_, h.k8.fr (fun c j hc => w c j (by omega)), h.k9.fr (fun c j hc => w c j (by omega)), h.ka.fr (fun c j hc => w c j (by omega)), h.kt.fr (fun j => w 52 j (by omega)), v.kb h.kb, v.kz h.k0 h.kz⟩
  intro t ht
  by_cases c : t = s
  · rw [c]; exact k7
  · have g := h.k7 t ht
    unfold K7s at *
    rw [ec (68 + 3 * t) 3 (by omega) (by omega) (by omega) (by omega) (by omega), ec (68 + 3 * t) 2 (by omega) (by omega) (by omega) (by omega) (by omega), ec (68 + 3 * t) 4 (by omega) (by omega) (by omega) (by omega) (by omega), ec 140 t (by omega) (by omega) (by omega) (by omega) (by omega), ec 139 t (by omega) (by omega) (by omega) (by omega) (by omega)]
    refine ⟨fun q => ⟨(g.1 q).1, (g.1 q).2.1, fun i hi => ?_⟩, g.2⟩
    rw [el (68 + 3 * t + 1) i (by omega) (by omega) (by omega), el 141 (60 * t + i) (by omega) (by omega) (by omega), ec (68 + 3 * t + 2) i (by omega) (by omega) (by omega) (by omega) (by omega), ec 142 (60 * t + i) (by omega) (by omega) (by omega) (by omega) (by omega)]
    exact (g.1 q).2.2 i hi

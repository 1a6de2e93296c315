/-! where the class's boxes, programs and flights lie -/
def K0 (m : AM) : Prop := (∀ b : Int, 0 ≤ b → b < mi m 0 16 → 145 ≤ bx m b ∧ bx m b + 9 ≤ mz m ∧ (pg m b = 62 ∨ ∃ c : Int, 0 ≤ c ∧ c < mi m 0 16 ∧ pg m b = bx m c + 3)) ∧
  (∀ b c : Int, 0 ≤ b → b < mi m 0 16 → 0 ≤ c → c < mi m 0 16 → b ≠ c → (bx m b + 9 ≤ bx m c ∨ bx m c + 9 ≤ bx m b) ∧ pg m b ≠ pg m c) ∧
  (∀ f : Int, 0 ≤ f → f < mi m 0 17 → 145 ≤ fl m f ∧ fl m f + 9 ≤ mz m) ∧
  (∀ f g : Int, 0 ≤ f → f < mi m 0 17 → 0 ≤ g → g < mi m 0 17 → f ≠ g → fl m f + 9 ≤ fl m g ∨ fl m g + 9 ≤ fl m f) ∧
  (∀ b f : Int, 0 ≤ b → b < mi m 0 16 → 0 ≤ f → f < mi m 0 17 → bx m b + 9 ≤ fl m f ∨ fl m f + 9 ≤ bx m b) ∧
  ∃ q : Nat, mr m 0 15 = some q ∧ (q = 62 ∨ ∃ c : Int, 0 ≤ c ∧ c < mi m 0 16 ∧ q = bx m c + 3) ∧ ∀ b : Int, 0 ≤ b → b < mi m 0 16 → pg m b ≠ q
theorem K0.pb {m : AM} (h : K0 m) {b c : Int} (hb : 0 ≤ b ∧ b < mi m 0 16) (hc : 0 ≤ c ∧ c < mi m 0 16) : pg m b ≠ bx m c ∧ pg m b ≠ bx m c + 1 ∧ pg m b ≠ bx m c + 2 := by
  have hc1 := h.1 c hc.1 hc.2
  rcases (h.1 b hb.1 hb.2).2.2 with e | ⟨d, d0, d1, e⟩
  · omega
  · by_cases z : d = c
    · rw [z] at e; omega
    · have := (h.2.1 d c d0 d1 hc.1 hc.2 z).1
      omega
theorem K0.pf {m : AM} (h : K0 m) {b f : Int} (hb : 0 ≤ b ∧ b < mi m 0 16) (hf : 0 ≤ f ∧ f < mi m 0 17) (r : Nat) (hr : r ≤ 8) : pg m b ≠ fl m f + r := by
  have hc1 := h.2.2.1 f hf.1 hf.2
  rcases (h.1 b hb.1 hb.2).2.2 with e | ⟨d, d0, d1, e⟩
  · omega
  · have := h.2.2.2.2.1 d f d0 d1 hf.1 hf.2
    omega
theorem K0.pp {m : AM} (h : K0 m) {b c : Int} (hb : 0 ≤ b ∧ b < mi m 0 16) (hc : 0 ≤ c ∧ c < mi m 0 16) (hbc : b ≠ c) (r : Nat) (hr : r ≤ 5) : pg m b ≠ pg m c + r := by
  have n := (h.2.1 b c hb.1 hb.2 hc.1 hc.2 hbc).2
  have e1 := (h.1 b hb.1 hb.2).2.2
  have e2 := (h.1 c hc.1 hc.2).2.2
  have g1 := (h.1 b hb.1 hb.2).1
  rcases e1 with e1 | ⟨d, d0, d1, e1⟩ <;> rcases e2 with e2 | ⟨d', d0', d1', e2⟩
  · omega
  · have := (h.1 d' d0' d1').1
    omega
  · have := (h.1 d d0 d1).1
    omega
  · by_cases z : d = d'
    · rw [z] at e1; omega
    · have := (h.2.1 d d' d0 d1 d0' d1' z).1
      omega
/-- what runs stand on, whatever the lines' watches are -/
def QX (m : AM) (W : ZW) : Prop := RA m ∧ (mi m 0 16 = W.nb ∧ W.ok ∧ ∀ b, 0 ≤ b → b < W.nb → AgB m W b) ∧ K2 m ∧ (RC m 24 ∧ RC m 32 ∧ RC m 40) ∧ CR m ∧ FLG m 48
theorem QR.x {m : AM} (h : QR m) : QX m (wN m) := ⟨h.1, ⟨h.2.1.1, h.wok, fun b h0 h1 => (h.2.1.2 b h0 h1).1⟩, h.2.2⟩
theorem QX.s {m : AM} {W : ZW} (h : QX m W) : St m := h.1.1.1.s
theorem QX.i {m : AM} {W : ZW} (h : QX m W) : IM m := h.1.1.1.i
theorem QX.rc {m : AM} {W : ZW} (h : QX m W) {o : Nat} (ho : sto o) : RC m o := by
  rcases ho with rfl | rfl | rfl
  · exact h.2.2.2.1.1
  · exact h.2.2.2.1.2.1
  · exact h.2.2.2.1.2.2
theorem QX.gt {m : AM} {W : ZW} (h : QX m W) {o : Nat} (ho : sto o) : GT m o W := ⟨h.s, ho, stO h.s ho, h.2.1.2.1, h.2.1.2.2⟩
theorem QX.bi {m N : AM} {W : ZW} {o : Nat} {g : Prop} {S : ZS} (h : QX m W) (ho : sto o) (hB : BI m o g N S) (hC : CR N) : QX N W := by
  have q := hB.1.qu ho
  have ho2 := ho
  unfold sto at ho2
  have key : ∀ o', sto o' → RC N o' := by
    intro o' h'
    by_cases e : o' = o
    · rw [e]; exact hB.2.2.1
    · have h2 := h'
      unfold sto at h2
      exact (h.rc h').same (fun r j hr => hB.1.cel (by unfold tcl; omega) j)
  refine ⟨h.1.ref (q.st h.s) hB.2.1 (fun c j h1 h2 => hB.1.cel (by unfold tcl; omega) j), ⟨?_, h.2.1.2.1, fun b h0 h1 => hB.1.agB ho (h.2.1.2.2 b h0 h1)⟩, q.k2 h.2.2.1, ⟨key 24 (Or.inl rfl), key 32 (Or.inr (Or.inl rfl)), key 40 (Or.inr (Or.inr rfl))⟩, hC, hB.1.fg ho h.2.2.2.2.2⟩
  rw [hB.1.cel (nt0 ho)]
  exact h.2.1.1
theorem QX.flt {m : AM} {W : ZW} (h : QX m W) {f : Int} (h0 : 0 ≤ f) (h1 : f < mi m 0 17) : (mr m 4 f.toNat = some (fl m f) ∧ 145 ≤ fl m f) ∧ FLG m (fl m f) ∧ AgF m f := h.2.2.1.2 f h0 (by rw [← h.2.2.1.1]; exact h1)
theorem ct_flyX {G : QW} {m N : AM} {W : ZW} {o : Nat} {f n u : Int} (h : QX m W) (hc : CU m N) (hQ : QX N W) (ho : sto o) (hf : 0 ≤ f ∧ f < mi m 0 17) (hu : -2147483648 ≤ u ∧ u < 2147483648) (hn1 : 0 ≤ n) (hn : n ≤ 200) (h24 : o ≠ 24 := by decide) : qM G mX11_fly 5 0 0 [vR 0, vR o, vR (fl m f), vI n, vI u] N (fun r K => r = none ∧ (TF o N K ∧ JC K o (zwFly W (Fm m f) n u)) ∧ CU m K ∧ QX K W) := by
  have e17 : mi N 0 17 = mi m 0 17 := hc.1.2.2.1 0 17 (by unfold NQ; omega)
  have q := ct_flyK (G := G) (a := fl N f) (n := n) (u := u) (hQ.gt ho) hQ.2.1.1 (hQ.flt hf.1 (by rw [e17]; exact hf.2)).2.1 hu hn1 hn hQ.i (hQ.rc ho) hQ.2.2.2.2.1
  rw [hc.1.fee (h.flt hf.1 hf.2).1.2, hc.1.fle] at q
  exact qM.mono q (fun r K z => ⟨z.1, ⟨z.2.1.1, z.2.1.2.2.2.1⟩, hc.trans (z.2.1.1.cu ho h24), hQ.bi ho z.2.1 z.2.2⟩)
/-- a box outlives the flights of a set -/
def outl (W : ZW) (F : Int → Int → Nat → Int) (fs n nf b : Int) : Prop := ∀ f : Int, 0 ≤ f → f < nf → z_iand (z_ishr fs f) 1 ≠ 0 → (zwFull W (F f) n).fa b.toNat = 0
/-- the watches of a program's lines, as bits -/
def xW (v : Int) : Int → Int := fun l => z_iand (z_ishr v l) 1
theorem FLG.same {m N : AM} {a : Nat} (h : FLG m a) (h2 : N.2.2 = m.2.2) (e : ∀ r j : Nat, r ≤ 8 → mi N (a + r) j = mi m (a + r) j) : FLG N a := by
  have er : mr N = mr m := congrArg (fun q => q.1) h2
  have ez : mz N = mz m := congrArg (fun q => q.2.2.2) h2
  have ek : mk N = mk m := congrArg (fun q => q.2.1) h2
  have en : mn N = mn m := congrArg (fun q => q.2.2.1) h2
  obtain ⟨⟨b1, b2, b3⟩, a2, a3, a4, a5, a6, a7, a8⟩ := h
  refine ⟨⟨by rw [ez]; exact b1, by rw [ek]; exact b2, fun q hq => by rw [er, ez, ek, en]; exact b3 q hq⟩, a2, fun i hi => by rw [er, ez, ek, en]; exact a3 i hi, fun j => ?_, fun j => ?_, fun j => ?_, fun j => ?_, fun i hi j => ?_⟩
  · rw [e 1 j (by decide)]; exact a4 j
  · rw [e 2 j (by decide)]; exact a5 j
  · rw [e 3 j (by decide)]; exact a6 j
  · rw [e 4 j (by decide)]; exact a7 j
  · rw [Nat.add_assoc, e (6 + i) j (by omega), ← Nat.add_assoc]; exact a8 i hi j
theorem K2.same {m N : AM} (h : K2 m) (h2 : N.2.2 = m.2.2) (e0 : ∀ c j : Nat, c < 62 ∨ (68 ≤ c ∧ c < 145) → mi N c j = mi m c j) (e : ∀ f : Int, 0 ≤ f → f < mi m 0 17 → ∀ r j : Nat, r ≤ 8 → mi N (fl m f + r) j = mi m (fl m f + r) j) : K2 N := by
  have er : mr N = mr m := congrArg (fun q => q.1) h2
  have ef : ∀ f, fl N f = fl m f := fun f => by unfold fl; rw [er]
  refine ⟨?_, fun f f0 f1 => ?_⟩
  · rw [e0 _ _ (by omega), e0 _ _ (by omega)]; exact h.1
  · rw [e0 _ _ (by omega)] at f1
    obtain ⟨⟨q1, q2⟩, q3, q4⟩ := h.2 f f0 f1
    have g := e f f0 (by rw [h.1]; exact f1)
    unfold AgF
    rw [ef, er]
    refine ⟨⟨q1, q2⟩, q3.same h2 g, fun i hi => ?_⟩
    obtain ⟨r1, r2, r3, r4, r5⟩ := q4 i hi
    rw [g 1 _ (by decide), g 2 _ (by decide), g 3 _ (by decide), g 4 _ (by decide), e0 101 _ (by omega), e0 102 _ (by omega), e0 103 _ (by omega), e0 104 _ (by omega)]
    refine ⟨r1, r2, r3, r4, fun j hj => ?_⟩
    rw [Nat.add_assoc, g (6 + i) j (by omega), ← Nat.add_assoc, e0 105 _ (by omega)]
    exact r5 j hj
theorem AgB.watch {m : AM} {b c v : Int} (k : K0 m) (h0 : mi m 0 16 = (wN m).nb) (hb : 0 ≤ b ∧ b < mi m 0 16) (hv : -2147483648 ≤ v ∧ v < 2147483648) (hc : 0 ≤ c ∧ c < mi m 0 16) (hB : pg m b = 62 ∨ 145 ≤ pg m b) (h : AgB m (wN m) c) : AgB (si m (pg m b) 8 v) (wW (wN m) b (xW v)) c := by
  have e : ∀ c j, c ≠ pg m b → mi (si m (pg m b) 8 v) c j = mi m c j := fun c j hc => mi_si_ne m v (fun q => hc q.1)
  have e8 : ∀ c j, j ≠ 8 → mi (si m (pg m b) 8 v) c j = mi m c j := fun c j hj => mi_si_ne m v (fun q => hj q.2)
  obtain ⟨aa, bb, ⟨d1, d2⟩, d, e', f', g, ii⟩ := h
  have np := k.pb hb hc
  refine ⟨aa, bb, ⟨(e8 _ _ (by decide)).trans d1, (e8 _ _ (by decide)).trans d2⟩, fun j => ?_, fun j h1 h2 => (e _ _ (fun z => np.2.2 z.symm)).trans (e' j h1 h2), fun r' h1 h2 => ?_, (e8 _ _ (by decide)).trans g, fun l h1 h2 => ?_⟩
  · have q := d j
    rw [← e (bx m c + 2) j (fun z => np.2.2 z.symm)] at q
    exact q
  · refine Eq.trans ?_ (f' r' h1 h2)
    show FX1_greatestFor (si m (pg m b) 8 v) (bx m c) r' = _
    unfold FX1_greatestFor
    rw [e (bx m c + 1) _ (fun z => np.2.1 z.symm)]
  · obtain ⟨l1, l2, l3, l4, l5⟩ := ii l h1 h2
    have e7 : mi (si m (pg m b) 8 v) (pg m c) 7 = mi m (pg m c) 7 := e8 _ _ (by decide)
    by_cases z : c = b
    · subst z
      have er : ∀ r j, 1 ≤ r → mi (si m (pg m c) 8 v) (pg m c + r) j = mi m (pg m c + r) j := fun r j hr => e _ _ (by omega)
      have ew : (wW (wN m) c (xW v)).wa c l = xW v l := if_pos rfl
      refine ⟨?_, ?_, ⟨(er 2 _ (by decide)).trans l3.1, (er 3 _ (by decide)).trans l3.2.1, (er 4 _ (by decide)).trans l3.2.2⟩, (er 5 _ (by decide)).trans l4, fun j q1 q2 => (er 1 _ (by decide)).trans (l5 j q1 q2)⟩
      · show z_iand (z_ishr (mi (si m (pg m c) 8 v) (pg m c) 7) l) 1 = _
        rw [e7]; exact l1
      · show z_iand (z_ishr (mi (si m (pg m c) 8 v) (pg m c) 8) l) 1 = _
        rw [ew, mi_si_same _ _ _ hv.1 hv.2]
        rfl
    · have nn := fun r hr => k.pp hb hc (fun q => z q.symm) r hr
      have er : ∀ r j, r ≤ 5 → mi (si m (pg m b) 8 v) (pg m c + r) j = mi m (pg m c + r) j := fun r j hr => e _ _ (fun q => nn r hr q.symm)
      have ew : (wW (wN m) b (xW v)).wa c l = (wN m).wa c l := if_neg z
      have e88 : mi (si m (pg m b) 8 v) (pg m c) 8 = mi m (pg m c) 8 := er 0 8 (by decide)
      refine ⟨?_, ?_, ⟨(er 2 _ (by decide)).trans l3.1, (er 3 _ (by decide)).trans l3.2.1, (er 4 _ (by decide)).trans l3.2.2⟩, (er 5 _ (by decide)).trans l4, fun j q1 q2 => (er 1 _ (by decide)).trans (l5 j q1 q2)⟩
      · show z_iand (z_ishr (mi (si m (pg m b) 8 v) (pg m c) 7) l) 1 = _
        rw [e7]; exact l1
      · show z_iand (z_ishr (mi (si m (pg m b) 8 v) (pg m c) 8) l) 1 = _
        rw [ew, e88]; exact l2
theorem QR.watch {m : AM} {b v : Int} (h : QR m) (k : K0 m) (hb : 0 ≤ b ∧ b < mi m 0 16) (hv : -2147483648 ≤ v ∧ v < 2147483648) : QX (si m (pg m b) 8 v) (wW (wN m) b (xW v)) := by
  have hB := h.2.1.2 b hb.1 (by rw [← h.2.1.1]; exact hb.2)
  have hp : pg m b = 62 ∨ 145 ≤ pg m b := hB.1.2.1.2
  have e : ∀ c j, c ≠ pg m b → mi (si m (pg m b) 8 v) c j = mi m c j := fun c j hc => mi_si_ne m v (fun q => hc q.1)
  have hn : ∀ c, c < 62 ∨ (62 < c ∧ c < 145) → c ≠ pg m b := fun c hc => by omega
  have i : IM (si m (pg m b) 8 v) := h.i.oneA (fun q hq => hn _ ((by decide : ∀ q ∈ imS, q.1 < 62 ∨ (62 < q.1 ∧ q.1 < 145)) q hq)) (fun q hq => hn _ ((by decide : ∀ q ∈ imA, q.1 < 62 ∨ (62 < q.1 ∧ q.1 < 145)) q hq)) (by omega) (by omega) (by omega) (by omega)
  have hS : St (si m (pg m b) 8 v) := h.s
  have r : ∀ o, sto o → RC m o → RC (si m (pg m b) 8 v) o := fun o ho hr => hr.same (fun r j hr => e _ _ (by unfold sto at ho; omega))
  have hk := h.2.2.2.2.1
  refine ⟨h.1.ref hS i (fun c j a b => e _ _ (by omega)), ⟨(e _ _ (by omega)).trans h.2.1.1, h.wok, fun c c0 c1 => ?_⟩, h.2.2.1.same rfl (fun c j hc => e _ _ (by omega)) (fun f f0 f1 r j hr => e _ _ (fun z => k.pf hb ⟨f0, f1⟩ r hr z.symm)), ⟨r 24 (Or.inl rfl) h.2.2.2.1.1, r 32 (Or.inr (Or.inl rfl)) h.2.2.2.1.2.1, r 40 (Or.inr (Or.inr rfl)) h.2.2.2.1.2.2⟩, ⟨fun j => by rw [e _ _ (by omega)]; exact hk.1 j, fun j => by rw [e _ _ (by omega)]; exact hk.2.1 j, fun j => by rw [e _ _ (by omega)]; exact hk.2.2.1 j, by rw [e _ _ (by omega)]; exact hk.2.2.2⟩, h.2.2.2.2.2.same rfl (fun r j hr => e _ _ (by omega))⟩
  have c1' : c < mi m 86 1 := c1
  exact AgB.watch k h.2.1.1 hb hv ⟨c0, by rw [h.2.1.1]; exact c1'⟩ hp (h.2.1.2 c c0 c1').1

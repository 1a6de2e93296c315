/-! what holds between two calls -/
/-- the reference's rows of boxes that don't stand yet -/
def KB (m : AM) : Prop := ∀ b : Int, mi m 86 1 ≤ b → b < 6 → mi m 91 b.toNat = 0 ∧ mi m 90 b.toNat = -1
/-- a shelf -/
def K7s (m : AM) (s : Nat) : Prop := (mi m (68 + 3 * s) 3 ≠ -1 → mi m (68 + 3 * s) 2 = -1 ∧ mi m (68 + 3 * s) 4 = mi m 140 s ∧ ∀ i : Nat, i < 60 → ml m (68 + 3 * s + 1) i = ml m 141 (60 * s + i) ∧ mi m (68 + 3 * s + 2) i = mi m 142 (60 * s + i)) ∧ mi m 139 s = if mi m (68 + 3 * s) 3 ≠ -1 then -2 - mi m (68 + 3 * s) 3 else mi m (68 + 3 * s) 2
def K7 (m : AM) : Prop := ∀ s : Nat, s < 6 → K7s m s
/-- the latest run, in the reference's rows -/
def JR (m : AM) (S : ZS) : Prop := (∀ j : Nat, j < 48 → mi m 116 j = S.sl j) ∧ (∀ j : Nat, j < 24 → mi m 117 j = S.po j) ∧ (∀ b p : Nat, b < 6 → p < 4 → mi m 118 (4 * b + p) = S.fa b) ∧ (∀ b : Nat, b < 6 → mi m 119 b = if S.fa b ≠ 0 then 1 else 0) ∧ (∀ b : Nat, b < 6 → mi m 120 b = S.da b) ∧ (∀ b : Nat, b < 6 → mi m 121 b = S.cm b) ∧ mi m 122 0 = S.fi.1 ∧ (0 ≤ S.fi.1 → mi m 122 1 = S.fi.2.1 ∧ mi m 122 2 = S.fi.2.2.1 ∧ mi m 122 3 = S.fi.2.2.2)
def K8 (m : AM) : Prop := (mi m 86 50 = 0 ∧ mi m 0 18 = -1) ∨ (mi m 86 50 = 1 ∧ mi m 0 18 = mi m 86 51 ∧ ∃ S : ZS, JC m 24 S ∧ JF m 24 S ∧ JR m S)
def K9 (m : AM) : Prop := mi m 0 19 = mi m 86 62 ∧ ∀ j : Nat, j < 3 → mi m 57 j = mi m 125 j
def KA (m : AM) : Prop := mi m 22 1 = mi m 86 76 ∧ ∀ j : Nat, j < 24 → mi m 23 j = mi m 138 j
def KT (m : AM) : Prop := ∀ j : Nat, j < 3 → mi m 52 j = -1
/-- the bits of slots, as both sides hold them -/
def KM (m : AM) : Prop := ∀ b : Int, 0 ≤ b → b < mi m 0 16 → ∀ s : Nat, s < 8 → mi m (bx m b + 1) s = mi m 88 ((8 * b) + s).toNat
theorem KM.fr {m N : AM} (h : KM m) (e16 : mi N 0 16 = mi m 0 16) (eb : ∀ b, bx N b = bx m b) (e : ∀ b : Int, 0 ≤ b → b < mi m 0 16 → ∀ s : Nat, s < 8 → mi N (bx m b + 1) s = mi m (bx m b + 1) s) (e88 : ∀ j, mi N 88 j = mi m 88 j) : KM N := by
  intro b h0 h1 s hs
  rw [e16] at h1
  rw [eb, e b h0 h1 s hs, e88]
  exact h b h0 h1 s hs
/-- how many cells there are -/
def KQ (m : AM) : Prop := ∀ q : Nat, mr m 0 15 = some q → ObA m q 5 fsProg
theorem K0.sp {m : AM} (k : K0 m) {q : Nat} (h : mr m 0 15 = some q) : q = 62 ∨ 145 ≤ q := by
  obtain ⟨g1, -, -, -, -, s, g6, g7, -⟩ := k
  rw [g6] at h
  obtain rfl := Option.some.inj h
  rcases g7 with w | ⟨c, c0, c1, w⟩
  · exact Or.inl w
  · have := (g1 c c0 c1).1
    omega
theorem KQ.qu {m N : AM} (h : KQ m) (k0 : K0 m) (f : QU m N) : KQ N := fun q hq => by
  rw [f.2.1 0 15 (by omega)] at hq
  have := k0.sp hq
  exact f.ob (by omega) (h q hq)
def KZ (m : AM) : Prop := ((mz m : Int) = 145 + 9 * (mi m 0 16 + mi m 0 17) ∧ KQ m) ∧ KM m
def QS (m : AM) : Prop := K0 m ∧ K3 m ∧ K4 m ∧ K5 m ∧ K6 m ∧ K7 m ∧ K8 m ∧ K9 m ∧ KA m ∧ KT m ∧ KB m ∧ KZ m
def Inv (m : AM) : Prop := QR m ∧ QS m
theorem Inv.s {m : AM} (h : Inv m) : St m := h.1.s
theorem Inv.i {m : AM} (h : Inv m) : IM m := h.1.i
theorem Inv.k0 {m : AM} (h : Inv m) : K0 m := h.2.1
theorem Inv.k3 {m : AM} (h : Inv m) : K3 m := h.2.2.1
theorem Inv.k4 {m : AM} (h : Inv m) : K4 m := h.2.2.2.1
theorem Inv.k5 {m : AM} (h : Inv m) : K5 m := h.2.2.2.2.1
theorem Inv.k6 {m : AM} (h : Inv m) : K6 m := h.2.2.2.2.2.1
theorem Inv.k7 {m : AM} (h : Inv m) : K7 m := h.2.2.2.2.2.2.1
theorem Inv.k8 {m : AM} (h : Inv m) : K8 m := h.2.2.2.2.2.2.2.1
theorem Inv.k9 {m : AM} (h : Inv m) : K9 m := h.2.2.2.2.2.2.2.2.1
theorem Inv.ka {m : AM} (h : Inv m) : KA m := h.2.2.2.2.2.2.2.2.2.1
theorem Inv.kt {m : AM} (h : Inv m) : KT m := h.2.2.2.2.2.2.2.2.2.2.1
theorem Inv.kb {m : AM} (h : Inv m) : KB m := h.2.2.2.2.2.2.2.2.2.2.2.1
theorem Inv.kz {m : AM} (h : Inv m) : KZ m := h.2.2.2.2.2.2.2.2.2.2.2.2
/-- the rest of the ground stays -/
def FS (m N : AM) : Prop := QU m N ∧ ∀ c j : Nat, (24 ≤ c ∧ c ≤ 31) ∨ c = 57 ∨ c = 0 ∨ (c = 86 ∧ (j = 50 ∨ j = 51 ∨ j = 62)) ∨ (116 ≤ c ∧ c ≤ 122) ∨ c = 125 → mi N c j = mi m c j
theorem CU.fs {m N : AM} (h : CU m N) : FS m N := ⟨h.1, fun c j hc => by
  rcases hc with q | q | q | q | q | q
  · exact h.2.2.2 c j (Or.inl q)
  · exact h.2.2.2 c j (Or.inr (Or.inl q))
  · exact h.2.2.2 c j (Or.inr (Or.inr q))
  · exact h.2.1 c j (by omega) (by omega)
  · exact h.2.1 c j (by omega) (by omega)
  · exact h.2.1 c j (by omega) (by omega)⟩
theorem FQ.fs {m N : AM} (h : FQ m N) : FS m N := ⟨h.qu, fun c j hc => h.cell (by omega) (by omega) (by omega)⟩
theorem FS.i {m N : AM} (h : FS m N) {c j : Nat} (hc : ¬ (c = 12 ∨ (15 ≤ c ∧ c ≤ 21) ∨ (32 ≤ c ∧ c ≤ 51) ∨ (58 ≤ c ∧ c ≤ 61) ∨ (c = 86 ∧ 35 ≤ j ∧ j ≤ 49) ∨ (106 ≤ c ∧ c ≤ 114) ∨ c = 115 ∨ (126 ≤ c ∧ c ≤ 132))) : mi N c j = mi m c j := by
  by_cases q : NQ c j
  · refine h.2 c j ?_
    unfold NQ at q
    omega
  · exact h.1.2.2.1 c j q
theorem QS.fs {m N : AM} (hQ : QR m) (h : QS m) (f : FS m N) : QS N := by
  obtain ⟨k0, k3, k4, k5, k6, k7, k8, k9, ka, kt, kb, kz⟩ := h
  have e := fun (c j : Nat) (hc : ¬ (c = 12 ∨ (15 ≤ c ∧ c ≤ 21) ∨ (32 ≤ c ∧ c ≤ 51) ∨ (58 ≤ c ∧ c ≤ 61) ∨ (c = 86 ∧ 35 ≤ j ∧ j ≤ 49) ∨ (106 ≤ c ∧ c ≤ 114) ∨ c = 115 ∨ (126 ≤ c ∧ c ≤ 132))) => f.i hc
  have e16 : mi N 0 16 = mi m 0 16 := e _ _ (by decide)
  refine ⟨k0.cu f.1, ?_, f.1.k4 k4, ?_, f.1.k6 k6, ?_, ?_, ?_, ?_, ?_, ?_, ?_⟩
  · intro b h0 h1
    rw [e16] at h1
    have B := (hQ.2.1.2 b h0 (by rw [← hQ.2.1.1]; exact h1)).1
    have g := k3 b h0 h1
    rw [f.1.pge B.2.1.1, f.1.2.2.1 (pg m b) 5 (nqq B.2.1.2 5), f.1.wn]
    exact g
  · unfold K5 at *
    rw [e 1 1 (by decide), e 86 16 (by decide)]
    refine ⟨k5.1, fun j hj => ?_⟩
    rw [e 100 j (by omega), e 2 j (by omega)]
    exact k5.2 j hj
  · intro s hs
    have g := k7 s hs
    unfold K7s at *
    have el : ∀ c j, ¬ (c = 15 ∨ c = 16 ∨ c = 21 ∨ scr c) → ml N c j = ml m c j := f.1.2.2.2
    rw [e (68 + 3 * s) 3 (by omega), e (68 + 3 * s) 2 (by omega), e (68 + 3 * s) 4 (by omega), e 140 s (by omega), e 139 s (by omega)]
    refine ⟨fun q => ⟨(g.1 q).1, (g.1 q).2.1, fun i hi => ?_⟩, g.2⟩
    rw [el (68 + 3 * s + 1) i (by unfold scr; omega), el 141 (60 * s + i) (by unfold scr; omega), e (68 + 3 * s + 2) i (by omega), e 142 (60 * s + i) (by omega)]
    exact (g.1 q).2.2 i hi
  · unfold K8 at *
    rw [e 86 50 (by decide), e 0 18 (by decide), e 86 51 (by decide)]
    refine k8.imp id (fun q => ⟨q.1, q.2.1, ?_⟩)
    obtain ⟨S, a, b, c⟩ := q.2.2
    refine ⟨S, a.same (fun r j hr => e _ _ (by omega)), b.same (e _ _ (by decide)) (fun j => e _ _ (by omega)), ?_⟩
    have ee : ∀ c j, 116 ≤ c → c ≤ 122 → mi N c j = mi m c j := fun c j a b => e c j (by omega)
    unfold JR at *
    simp only [ee _ _ (show 116 ≤ 116 by decide) (show 116 ≤ 122 by decide), ee _ _ (show 116 ≤ 117 by decide) (show 117 ≤ 122 by decide), ee _ _ (show 116 ≤ 118 by decide) (show 118 ≤ 122 by decide), ee _ _ (show 116 ≤ 119 by decide) (show 119 ≤ 122 by decide), ee _ _ (show 116 ≤ 120 by decide) (show 120 ≤ 122 by decide), ee _ _ (show 116 ≤ 121 by decide) (show 121 ≤ 122 by decide), ee _ _ (show 116 ≤ 122 by decide) (show 122 ≤ 122 by decide)]
    exact c
  · unfold K9 at *
    rw [e 0 19 (by decide), e 86 62 (by decide)]
    refine ⟨k9.1, fun j hj => ?_⟩
    rw [e 57 j (by omega), e 125 j (by omega)]
    exact k9.2 j hj
  · unfold KA at *
    rw [e 22 1 (by decide), e 86 76 (by decide)]
    refine ⟨ka.1, fun j hj => ?_⟩
    rw [e 23 j (by omega), e 138 j (by omega)]
    exact ka.2 j hj
  · intro j hj
    rw [e 52 j (by omega)]
    exact kt j hj
  · intro b h0 h1
    rw [e 86 1 (by decide)] at h0
    rw [e 91 _ (by omega), e 90 _ (by omega)]
    exact kb b h0 h1
  · unfold KZ at *
    rw [f.1.zz, e 0 16 (by decide), e 0 17 (by decide)]
    refine ⟨⟨kz.1.1, kz.1.2.qu k0 f.1⟩, kz.2.fr e16 f.1.bxe (fun b h0 h1 s hs => ?_) (fun j => e 88 j (by omega))⟩
    have B := (hQ.2.1.2 b h0 (by rw [← hQ.2.1.1]; exact h1)).1
    exact e _ _ (by have := B.2.1.1; omega)
theorem QR.fq {m N : AM} (h : QR m) (hR : RA N) (f : FQ m N) : QR N := by
  have q := f.qu
  have e : ∀ c j, c < 86 → mi N c j = mi m c j := fun c j hc => f.cell (by omega) (by omega) (by omega)
  have e2 : ∀ c j, 145 ≤ c → mi N c j = mi m c j := fun c j hc => f.cell (by omega) (by omega) (by omega)
  exact ⟨hR, q.k1 h.2.1, q.k2 h.2.2.1, ⟨h.2.2.2.1.1.same (fun r j _ => e _ _ (by omega)), h.2.2.2.1.2.1.same (fun r j _ => e _ _ (by omega)), h.2.2.2.1.2.2.same (fun r j _ => e _ _ (by omega))⟩, ⟨fun j => by rw [e _ _ (by decide)]; exact h.2.2.2.2.1.1 j, fun j => by rw [e _ _ (by decide)]; exact h.2.2.2.2.1.2.1 j, fun j => by rw [e _ _ (by decide)]; exact h.2.2.2.2.1.2.2.1 j, by rw [e _ _ (by decide)]; exact h.2.2.2.2.1.2.2.2⟩, h.2.2.2.2.2.same f.1 (fun r j hr => e _ _ (by omega))⟩
theorem Inv.cu {m N : AM} (h : Inv m) (hQ : QR N) (c : CU m N) : Inv N := ⟨hQ, h.2.fs h.1 c.fs⟩
theorem Inv.fq {m N : AM} (h : Inv m) (hR : RA N) (f : FQ m N) : Inv N := ⟨h.1.fq hR f, h.2.fs h.1 f.fs⟩
theorem Inv.same {m N : AM} (h : Inv m) (s : SameP m N) : Inv N := h.fq (h.1.1.of s) (FQ.same s)
theorem QR.hx {m : AM} (h : QR m) : HX m := fun b h0 h1 => by
  have K := h.2.1.2 b h0 (by rw [← h.2.1.1]; exact h1)
  have B := K.1
  have i91 := h.i.a 91 0 12 (by decide) b.toNat
  have i87 := h.i.a 87 0 6 (by decide) b.toNat
  have i90 := h.i.a 90 (-1) 5 (by decide) b.toNat
  exact ⟨B.1.1, B.1.2.1, B.1.2.2.1, B.1.2.2.2, by rw [B.2.2.2.2.2.2.1]; exact i91, by rw [B.2.2.1.2]; exact i87, by rw [K.2]; exact i90⟩
theorem QR.hf {m : AM} (h : QR m) : HF m := fun f h0 h1 => by
  have F := h.flt h0 h1
  exact ⟨F.1.1, F.2.1.1, F.2.1.2.2.1⟩
/-- which kind of value a method answers: 1 a long, 0 an int or a boolean -/
def tgr (r : Option FieldType) : Nat := match r with
  | some .long => 1
  | _ => 0
/-- a call of both sides: the same answer, and what holds between calls holds again -/
def AG (G : QW) (mc mm : MD) (d d2 cells slots : Nat) (as : List Vl) (m : AM) : Prop := qM G mc d cells slots (vR 0 :: as) m (fun r m1 => ∃ v, r = some v ∧ v.1 = tgr mc.r ∧ St m1 ∧ qM G mm d2 0 0 (vR 86 :: as) m1 (fun r2 m2 => r2 = some v ∧ Inv m2))

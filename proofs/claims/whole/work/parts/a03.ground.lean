/-! the class's cells hold what boxes are told, and how they stand -/
/-- one of the class's three stands -/
def sto (o : Nat) : Prop := o = 24 ∨ o = 32 ∨ o = 40
theorem IM.std {m : AM} (h : IM m) {o r k : Nat} {v : Int} (ho : sto o) (hr : r ≤ 7) (h1 : r = 1 ∨ r = 2 → -1000000 ≤ v ∧ v ≤ 1000000) (h3 : r = 3 → 0 ≤ v ∧ v ≤ 10) (h4 : r = 4 → -1 ≤ v ∧ v ≤ 200) : IM (si m (o + r) k v) := by
  have hr2 : r = 0 ∨ r = 1 ∨ r = 2 ∨ r = 3 ∨ r = 4 ∨ r = 5 ∨ r = 6 ∨ r = 7 := by omega
  rcases ho with rfl | rfl | rfl
  · rcases hr2 with rfl | rfl | rfl | rfl | rfl | rfl | rfl | rfl
    · exact h.oneA (by decide) (by decide) (by decide) (by decide) (by decide) (by decide)
    · have := h1 (Or.inl rfl)
      exact h.cell (-1000000) 1000000 (fun q hq e _ => (by decide : ∀ q ∈ imA, q.1 = 25 → q.2.1 = -1000000 ∧ q.2.2 = 1000000) q hq e) (by decide) this (by omega) (by decide) (by decide) (by decide) (by decide)
    · have := h1 (Or.inr rfl)
      exact h.cell (-1000000) 1000000 (fun q hq e _ => (by decide : ∀ q ∈ imA, q.1 = 26 → q.2.1 = -1000000 ∧ q.2.2 = 1000000) q hq e) (by decide) this (by omega) (by decide) (by decide) (by decide) (by decide)
    · have := h3 rfl
      exact h.cell 0 10 (fun q hq e _ => (by decide : ∀ q ∈ imA, q.1 = 27 → q.2.1 = 0 ∧ q.2.2 = 10) q hq e) (by decide) this (by omega) (by decide) (by decide) (by decide) (by decide)
    · have := h4 rfl
      exact h.cell (-1) 200 (fun q hq e _ => (by decide : ∀ q ∈ imA, q.1 = 28 → q.2.1 = -1 ∧ q.2.2 = 200) q hq e) (by decide) this (by omega) (by decide) (by decide) (by decide) (by decide)
    · exact h.oneA (by decide) (by decide) (by decide) (by decide) (by decide) (by decide)
    · exact h.oneA (by decide) (by decide) (by decide) (by decide) (by decide) (by decide)
    · exact h.oneA (by decide) (by decide) (by decide) (by decide) (by decide) (by decide)
  · rcases hr2 with rfl | rfl | rfl | rfl | rfl | rfl | rfl | rfl <;> exact h.oneA (by decide) (by decide) (by decide) (by decide) (by decide) (by decide)
  · rcases hr2 with rfl | rfl | rfl | rfl | rfl | rfl | rfl | rfl <;> exact h.oneA (by decide) (by decide) (by decide) (by decide) (by decide) (by decide)
/-- cells that a run on a stand may write -/
def tcl (o c : Nat) : Prop := (17 ≤ c ∧ c ≤ 20) ∨ (o ≤ c ∧ c ≤ o + 7)
/-- what a run on a stand leaves as it was -/
def TF (o : Nat) (m N : AM) : Prop := N.2.2.2 = m.2.2.2 ∧ (∀ c k : Nat, ¬ (c = 17 ∧ 4 ≤ k ∧ k ≤ 6) → mr N c k = mr m c k) ∧ (∀ c j : Nat, ¬ tcl o c → N.1 c j = m.1 c j) ∧ ∀ c j : Nat, c ≠ 21 → N.2.1 c j = m.2.1 c j
theorem TF.rf (o : Nat) (m : AM) : TF o m m := ⟨rfl, fun _ _ _ => rfl, fun _ _ _ => rfl, fun _ _ _ => rfl⟩
theorem TF.trans {o : Nat} {m N K : AM} (h : TF o m N) (h2 : TF o N K) : TF o m K := ⟨h2.1.trans h.1, fun c k hc => (h2.2.1 c k hc).trans (h.2.1 c k hc), fun c j hc => (h2.2.2.1 c j hc).trans (h.2.2.1 c j hc), fun c j hc => (h2.2.2.2 c j hc).trans (h.2.2.2 c j hc)⟩
theorem TF.cel {o : Nat} {m N : AM} (h : TF o m N) {c : Nat} (hc : ¬ tcl o c) (j : Nat) : mi N c j = mi m c j := by
  show (zi (N.1 c j)).toInt = (zi (m.1 c j)).toInt
  rw [h.2.2.1 c j hc]
theorem TF.lon {o : Nat} {m N : AM} (h : TF o m N) {c : Nat} (hc : c ≠ 21) (j : Nat) : ml N c j = ml m c j := by
  show (zl (N.2.1 c j)).toInt = (zl (m.2.1 c j)).toInt
  rw [h.2.2.2 c j hc]
theorem TF.zz {o : Nat} {m N : AM} (h : TF o m N) : mz N = mz m := congrArg (fun q => q.2.2) h.1
theorem TF.kk {o : Nat} {m N : AM} (h : TF o m N) : mk N = mk m := congrArg (fun q => q.1) h.1
theorem TF.nn {o : Nat} {m N : AM} (h : TF o m N) : mn N = mn m := congrArg (fun q => q.2.1) h.1
theorem TF.cell {o : Nat} {m N : AM} (h : TF o m N) {c : Nat} (hc : tcl o c) (k : Nat) (v : Int) : TF o m (si N c k v) := ⟨h.1, h.2.1, fun p j hp => by
  show u2 N.1 c k v p j = m.1 p j
  rw [u2_ne (fun e => hp (by rw [e]; exact hc))]
  exact h.2.2.1 p j hp, h.2.2.2⟩
theorem TF.pl {o : Nat} {m N K : AM} (h : TF o m N) (h2 : PL N K) : TF o m K := by
  refine ⟨by rw [h2.2.1]; exact h.1, fun c k hc => ?_, fun c j hc => by rw [h2.1]; exact h.2.2.1 c j hc, fun c j hc => (h2.2.2 c j hc).trans (h.2.2.2 c j hc)⟩
  show K.2.2.1 c k = _
  rw [h2.2.1]
  exact h.2.1 c k hc
theorem TF.ref {o : Nat} {m N : AM} (h : TF o m N) {k : Nat} (hk : 4 ≤ k ∧ k ≤ 6) (v : Option Nat) : TF o m (sr N 17 k v) := ⟨h.1, fun c j hc => by
  show u2 N.2.2.1 17 k v c j = _
  rw [show u2 N.2.2.1 17 k v c j = mr N c j from if_neg (fun q => hc ⟨q.1, by omega, by omega⟩)]
  exact h.2.1 c j hc, h.2.2.1, h.2.2.2⟩
theorem TF.st {o : Nat} {m N : AM} (h : TF o m N) (hS : St m) : St N := by
  refine ⟨by rw [h.zz]; exact hS.1, fun n hn => by rw [h.kk, h.nn]; exact hS.2.1 n hn, fun q hq => ?_⟩
  rw [h.2.1 q.1 q.2.1 (fun e => (by decide +kernel : ∀ q ∈ rL, ¬ (q.1 = 17 ∧ 4 ≤ q.2.1 ∧ q.2.1 ≤ 6)) q hq e)]
  exact hS.2.2 q hq
theorem TF.ob {o : Nat} {m N : AM} (h : TF o m N) {a c : Nat} {fs : List (Nat × Nat × Nat × Nat)} (ha : a ≠ 17) (hO : ObA m a c fs) : ObA N a c fs := by
  refine ⟨by rw [h.zz]; exact hO.1, by rw [h.kk]; exact hO.2.1, fun q hq => ?_⟩
  rw [h.2.1 a q.1 (fun e => ha e.1), h.zz, h.kk, h.nn]
  exact hO.2.2 q hq
/-- a line in the class's cells -/
def AgL (m : AM) (p : Nat) (W : ZW) (b l : Int) : Prop := z_iand (z_ishr (mi m p 7) l) 1 = W.ca b l ∧ z_iand (z_ishr (mi m p 8) l) 1 = W.wa b l ∧ (mi m (p + 2) l.toNat = (W.at3 b l).1 ∧ mi m (p + 3) l.toNat = (W.at3 b l).2.1 ∧ mi m (p + 4) l.toNat = (W.at3 b l).2.2) ∧ mi m (p + 5) l.toNat = W.tg b l ∧ ∀ j, (W.at3 b l).1 ≤ j → j < (W.at3 b l).2.2 → mi m (p + 1) j.toNat = wdC (W.cd b j)
/-- a box in the class's cells -/
def AgB (m : AM) (W : ZW) (b : Int) : Prop := (mr m 3 b.toNat = some (bx m b) ∧ ObA m (bx m b) 1 fsBox ∧ mr m (bx m b) 4 = some (pg m b) ∧ ObA m (pg m b) 5 fsProg) ∧ (145 ≤ bx m b ∧ (pg m b = 62 ∨ 145 ≤ pg m b)) ∧ (mi m (bx m b) 0 = b ∧ mi m (bx m b) 1 = W.kd b) ∧
  (∀ j : Nat, -1 ≤ mi m (bx m b + 2) j ∧ mi m (bx m b + 2) j ≤ 53 ∧ mi m (bx m b + 2) j % 10 ≤ 3 ∨ mi m (bx m b + 2) j = -1) ∧ (∀ i, 0 ≤ i → i ≤ 3 → mi m (bx m b + 2) i.toNat = W.wi b i) ∧ (∀ r, 0 ≤ r → r ≤ 7 → FX1_greatestFor m (bx m b) r = W.mo b r) ∧ mi m (pg m b) 6 = W.nl b ∧ ∀ l, 0 ≤ l → l < W.nl b → AgL m (pg m b) W b l
theorem nt62 {o c : Nat} (ho : sto o) (hc : c = 62 ∨ 145 ≤ c) : ¬ tcl o c := by
  unfold sto at ho
  unfold tcl
  omega
theorem nt145 {o c : Nat} (ho : sto o) (hc : 145 ≤ c) : ¬ tcl o c := by
  unfold sto at ho
  unfold tcl
  omega
theorem nt3 {o c : Nat} (ho : sto o) (hc : c = 62 ∨ 145 ≤ c) (d : Nat) (hd : d ≤ 5) : ¬ tcl o (c + d) := by
  unfold sto at ho
  unfold tcl
  omega
theorem ntb {o c : Nat} (ho : sto o) (hc : 145 ≤ c) (d : Nat) : ¬ tcl o (c + d) := by
  unfold sto at ho
  unfold tcl
  omega
theorem TF.agL {o : Nat} {m N : AM} (h : TF o m N) (ho : sto o) {p : Nat} (hp : p = 62 ∨ 145 ≤ p) {W : ZW} {b l : Int} (ha : AgL m p W b l) : AgL N p W b l := by
  unfold AgL at ha ⊢
  rw [h.cel (nt62 ho hp), h.cel (nt62 ho hp), h.cel (nt3 ho hp 2 (by decide)), h.cel (nt3 ho hp 3 (by decide)), h.cel (nt3 ho hp 4 (by decide)), h.cel (nt3 ho hp 5 (by decide))]
  refine ⟨ha.1, ha.2.1, ha.2.2.1, ha.2.2.2.1, fun j h1 h2 => ?_⟩
  rw [h.cel (nt3 ho hp 1 (by decide))]
  exact ha.2.2.2.2 j h1 h2
theorem TF.bxe {o : Nat} {m N : AM} (h : TF o m N) (b : Int) : bx N b = bx m b := by
  unfold bx
  rw [h.2.1 3 _ (fun e => absurd e.1 (by decide))]
theorem TF.fle {o : Nat} {m N : AM} (h : TF o m N) (b : Int) : fl N b = fl m b := by
  unfold fl
  rw [h.2.1 4 _ (fun e => absurd e.1 (by decide))]
theorem TF.pge {o : Nat} {m N : AM} (h : TF o m N) {b : Int} (hb : 145 ≤ bx m b) : pg N b = pg m b := by
  unfold pg
  rw [h.bxe b, h.2.1 (bx m b) 4 (fun e => by omega)]
theorem TF.agB {o : Nat} {m N : AM} (h : TF o m N) (ho : sto o) {W : ZW} {b : Int} (ha : AgB m W b) : AgB N W b := by
  obtain ⟨⟨a1, a2, a3, a4⟩, ⟨b1, b2⟩, c, d, e, f, g, i⟩ := ha
  have k : ∀ j r, mi N (bx m b + r) j = mi m (bx m b + r) j := fun j r => h.cel (ntb ho b1 r) j
  unfold AgB
  rw [h.bxe b, h.pge b1]
  refine ⟨⟨?_, h.ob (by omega) a2, ?_, h.ob (by omega) a4⟩, ⟨b1, b2⟩, ?_, fun j => ?_, fun j h1 h2 => ?_, fun r h1 h2 => ?_, ?_, fun l h1 h2 => h.agL ho b2 (i l h1 h2)⟩
  · rw [h.2.1 3 _ (fun e => absurd e.1 (by decide))]; exact a1
  · rw [h.2.1 (bx m b) 4 (fun e => by omega)]; exact a3
  · have k0 : ∀ j, mi N (bx m b) j = mi m (bx m b) j := fun j => h.cel (nt145 ho b1) j
    rw [k0, k0]; exact c
  · rw [k]; exact d j
  · rw [k]; exact e j h1 h2
  · rw [← f r h1 h2]
    unfold FX1_greatestFor
    rw [k]
  · rw [h.cel (nt62 ho b2)]; exact g
/-- a stand of the class holds how the boxes stand -/
def JC (N : AM) (o : Nat) (S : ZS) : Prop := (∀ j : Nat, j < 48 → mi N (o + 1) j = S.sl j) ∧ (∀ j : Nat, j < 24 → mi N (o + 2) j = S.po j) ∧ (∀ j : Nat, j < 6 → mi N (o + 3) j = S.fa j) ∧ (∀ j : Nat, j < 6 → mi N (o + 4) j = S.da j) ∧ (∀ j : Nat, j < 6 → mi N (o + 5) j = S.cm j) ∧ (∀ j : Nat, j < 6 → mi N (o + 6) j = S.mf j) ∧ (∀ j : Nat, j < 6 → bt (mi N o 7) j = decide (S.fa j ≠ 0)) ∧ 0 ≤ mi N o 7 ∧ mi N o 7 < 64
/-- and its first fault is the first one -/
def JF (N : AM) (o : Nat) (S : ZS) : Prop := (mi N o 7 = 0 ↔ S.fi.1 < 0) ∧ (0 ≤ S.fi.1 → mi N (o + 7) 0 = S.fi.1 ∧ mi N (o + 7) 1 = S.fi.2.1 ∧ mi N (o + 7) 2 = S.fi.2.2.1 ∧ mi N (o + 7) 3 = S.fi.2.2.2)
/-- ranges of a stand, of what a tick goes by -/
def RC (N : AM) (o : Nat) : Prop := (∀ j : Nat, -1000000 ≤ mi N (o + 1) j ∧ mi N (o + 1) j ≤ 1000000) ∧ (∀ j : Nat, -1000000 ≤ mi N (o + 2) j ∧ mi N (o + 2) j ≤ 1000000) ∧ (∀ j : Nat, 0 ≤ mi N (o + 3) j ∧ mi N (o + 3) j ≤ 10) ∧ ∀ j : Nat, -1 ≤ mi N (o + 4) j ∧ mi N (o + 4) j ≤ 200
def CT (N : AM) (C : ZC) : Prop := ((∀ j : Nat, j < 24 → mi N 18 j = C.po j) ∧ (∀ j : Nat, j < 6 → mi N 19 j = C.fa j) ∧ (∀ j : Nat, j < 3 → mi N 20 j = C.fe j) ∧ mi N 17 7 = C.t) ∧ (∀ j : Nat, -1000000 ≤ mi N 18 j ∧ mi N 18 j ≤ 1000000) ∧ (∀ j : Nat, 0 ≤ mi N 19 j ∧ mi N 19 j ≤ 10) ∧ (∀ j : Nat, -100000 ≤ mi N 20 j ∧ mi N 20 j ≤ 100000) ∧ 0 ≤ mi N 17 7 ∧ mi N 17 7 ≤ 199
/-- the ground of a run: the stand, the boxes -/
def GT (m : AM) (o : Nat) (W : ZW) : Prop := St m ∧ sto o ∧ ObA m o 9 fsStand ∧ W.ok ∧ ∀ b, 0 ≤ b → b < W.nb → AgB m W b
theorem GT.of {m N : AM} {o : Nat} {W : ZW} (h : GT m o W) (t : TF o m N) : GT N o W := ⟨t.st h.1, h.2.1, t.ob (by have := h.2.1; unfold sto at this; omega) h.2.2.1, h.2.2.2.1, fun b h0 h1 => t.agB h.2.1 (h.2.2.2.2 b h0 h1)⟩
/-- while box b does its tick -/
def LI (m : AM) (o : Nat) (x p : Nat) (C : ZC) (g : Prop) (N : AM) (S : ZS) : Prop := TF o m N ∧ IM N ∧ (mr N 17 4 = some o ∧ mr N 17 5 = some x ∧ mr N 17 6 = some p) ∧ RC N o ∧ CT N C ∧ (0 ≤ mi N 17 8 ∧ mi N 17 8 ≤ 100) ∧ JC N o S ∧ (g → JF N o S)

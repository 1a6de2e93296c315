/-! the run of boxes, as numbers alone -/
/-- what boxes are told: how many; of a box: its kind, its wires, how many lines; of a line: whether it catches, is watched, its target, its three places; the words; the greatest of a slot -/
abbrev ZW : Type := Int × (Int → Int) × (Int → Int → Int) × (Int → Int) × (Int → Int → Int) × (Int → Int → Int) × (Int → Int → Int) × (Int → Int → Int × Int × Int) × (Int → Int → Nat × Int) × (Int → Int → Int)
abbrev ZW.nb (W : ZW) : Int := W.1
abbrev ZW.kd (W : ZW) : Int → Int := W.2.1
abbrev ZW.wi (W : ZW) : Int → Int → Int := W.2.2.1
abbrev ZW.nl (W : ZW) : Int → Int := W.2.2.2.1
abbrev ZW.ca (W : ZW) : Int → Int → Int := W.2.2.2.2.1
abbrev ZW.wa (W : ZW) : Int → Int → Int := W.2.2.2.2.2.1
abbrev ZW.tg (W : ZW) : Int → Int → Int := W.2.2.2.2.2.2.1
abbrev ZW.at3 (W : ZW) : Int → Int → Int × Int × Int := W.2.2.2.2.2.2.2.1
abbrev ZW.cd (W : ZW) : Int → Int → Nat × Int := W.2.2.2.2.2.2.2.2.1
abbrev ZW.mo (W : ZW) : Int → Int → Int := W.2.2.2.2.2.2.2.2.2
/-- how boxes stand: slots, ports, faults, when they died, how many were caught, lines that did not fit; the first fault: tick, box, line, number -/
abbrev ZS : Type := (Nat → Int) × (Nat → Int) × (Nat → Int) × (Nat → Int) × (Nat → Int) × (Nat → Int) × Int × Int × Int × Int
abbrev ZS.sl (S : ZS) : Nat → Int := S.1
abbrev ZS.po (S : ZS) : Nat → Int := S.2.1
abbrev ZS.fa (S : ZS) : Nat → Int := S.2.2.1
abbrev ZS.da (S : ZS) : Nat → Int := S.2.2.2.1
abbrev ZS.cm (S : ZS) : Nat → Int := S.2.2.2.2.1
abbrev ZS.mf (S : ZS) : Nat → Int := S.2.2.2.2.2.1
abbrev ZS.fi (S : ZS) : Int × Int × Int × Int := S.2.2.2.2.2.2
def zu (f : Nat → Int) (j : Nat) (v : Int) : Nat → Int := fun i => if i = j then v else f i
theorem zu_same (f : Nat → Int) (j : Nat) (v : Int) : zu f j v j = v := if_pos rfl
theorem zu_ne (f : Nat → Int) {j i : Nat} (v : Int) (h : i ≠ j) : zu f j v i = f i := if_neg h
/-- what a tick goes by: ports and faults as they were, what is felt, the tick -/
abbrev ZC : Type := (Nat → Int) × (Nat → Int) × (Nat → Int) × Int
abbrev ZC.po (C : ZC) : Nat → Int := C.1
abbrev ZC.fa (C : ZC) : Nat → Int := C.2.1
abbrev ZC.fe (C : ZC) : Nat → Int := C.2.2.1
abbrev ZC.t (C : ZC) : Int := C.2.2.2
def zwIn (W : ZW) (C : ZC) (b i : Int) : Int × Int :=
  if W.wi b i < 0 then (0, 0)
  else if C.fa (W.wi b i / 10).toNat = 0 then (0, C.po (4 * (W.wi b i / 10) + W.wi b i % 10).toNat)
  else if W.kd b = 2 then (0, 9000 + C.fa (W.wi b i / 10).toNat) else (4, 0)
def zwRd (W : ZW) (C : ZC) (sl : Nat → Int) (e b : Int) (w : Nat) (v : Int) : Int × Int :=
  if w = 0 then (0, v) else if w = 1 then (0, sl (8 * b + v).toNat) else if w = 2 then zwIn W C b v else if w = 3 then (0, C.fe v.toNat) else if w = 4 then (0, C.t) else (0, e)
def zwMost (W : ZW) (b l : Int) : Int := if W.tg b l ≥ 10 then 32767 else W.mo b (W.tg b l)
def zwPut (W : ZW) (b l v : Int) (S : ZS) : ZS :=
  if W.tg b l ≥ 10 then (S.1, zu S.po (4 * b + W.tg b l - 10).toNat v, S.2.2) else (zu S.sl (8 * b + W.tg b l).toNat v, S.2)
def zwMis (b l : Int) (S : ZS) : ZS := (S.1, S.2.1, S.2.2.1, S.2.2.2.1, S.2.2.2.2.1, zu S.mf b.toNat (z_ior (S.mf b.toNat) (z_ishl 1 l)), S.2.2.2.2.2.2)
def zwLand (W : ZW) (b l v : Int) (S : ZS) : Int × ZS :=
  if v > zwMost W b l ∨ v < -zwMost W b l - 1 then
    if W.wa b l ≠ 0 then (0, zwPut W b l (if v > zwMost W b l then zwMost W b l else -zwMost W b l - 1) (zwMis b l S)) else (1, zwMis b l S)
  else (0, zwPut W b l v S)
/-- what a part gives -/
def zwE (W : ZW) (C : ZC) (sl : Nat → Int) (e b fr to : Int) : Int × Int := eV (W.cd b) (zwRd W C sl e b) (to - fr).toNat fr
def zwB (W : ZW) (C : ZC) (e b l : Int) (S : ZS) : Int × ZS :=
  if (zwE W C S.sl e b (W.at3 b l).2.1 (W.at3 b l).2.2).1 ≠ 0 then ((zwE W C S.sl e b (W.at3 b l).2.1 (W.at3 b l).2.2).1, S)
  else zwLand W b l (zwE W C S.sl e b (W.at3 b l).2.1 (W.at3 b l).2.2).2 S
def zwLn (W : ZW) (C : ZC) (e b l : Int) (S : ZS) : Int × ZS :=
  if (W.at3 b l).1 < (W.at3 b l).2.1 then
    if (zwE W C S.sl e b (W.at3 b l).1 (W.at3 b l).2.1).1 ≠ 0 then ((zwE W C S.sl e b (W.at3 b l).1 (W.at3 b l).2.1).1, S)
    else if (zwE W C S.sl e b (W.at3 b l).1 (W.at3 b l).2.1).2 = 0 then (0, S)
    else zwB W C e b l S
  else zwB W C e b l S
/-- a line that is done begins: one more is caught -/
def zwCg (b p : Int) (S : ZS) : ZS := if p > 0 then (S.1, S.2.1, S.2.2.1, S.2.2.2.1, zu S.cm b.toNat (zi (S.cm b.toNat + 1)).toInt, S.2.2.2.2.2) else S
/-- lines from l on: what is pending, the line, how the boxes stand -/
def zwTk (W : ZW) (C : ZC) (b : Int) : Nat → Int → Int → Int → ZS → Int × Int × ZS
  | 0, _, p, i, S => (p, i, S)
  | c + 1, l, p, i, S => if W.ca b l = (if p > 0 then 1 else 0) then zwTk W C b c (l + 1) (zwLn W C p b l (zwCg b p S)).1 l (zwLn W C p b l (zwCg b p S)).2 else zwTk W C b c (l + 1) p i S
def zw4 (f : Nat → Int) (b : Int) : Nat → Int := fun j => if 4 * b ≤ (j : Int) ∧ (j : Int) < 4 * b + 4 then 0 else f j
def zwKill (b y : Int) (S : ZS) : ZS := (S.1, zw4 S.po b, zu S.fa b.toNat y, S.2.2.2)
def zwFail (b t l y : Int) (S : ZS) : ZS :=
  (S.1, zw4 S.po b, zu S.fa b.toNat y, zu S.da b.toNat t, S.2.2.2.2.1, S.2.2.2.2.2.1, if S.fi.1 < 0 then (t, b, l, y) else S.fi)
/-- one box's tick -/
def zwBx (W : ZW) (C : ZC) (b : Int) (S : ZS) : ZS :=
  if (zwTk W C b (W.nl b).toNat 0 0 0 S).1 = 0 then (zwTk W C b (W.nl b).toNat 0 0 0 S).2.2
  else zwFail b C.t (zwTk W C b (W.nl b).toNat 0 0 0 S).2.1 (zwTk W C b (W.nl b).toNat 0 0 0 S).1 (zwTk W C b (W.nl b).toNat 0 0 0 S).2.2
def zwGo (W : ZW) (C : ZC) (rest b : Int) (S : ZS) : ZS := if b ≠ rest ∧ S.fa b.toNat = 0 then zwBx W C b S else S
def zwAl (W : ZW) (C : ZC) (rest : Int) : Nat → Int → ZS → ZS
  | 0, _, S => S
  | c + 1, b, S => zwAl W C rest c (b + 1) (zwGo W C rest b S)
def zwTick (W : ZW) (fe : Nat → Int) (t rest : Int) (S : ZS) : ZS := zwAl W (S.po, S.fa, fe, t) rest W.nb.toNat 0 S
/-- c ticks from t on, or until it stops -/
def zwRun (step : Int → ZS → ZS) (stop : ZS → Bool) : Nat → Int → ZS → ZS
  | 0, _, S => S
  | c + 1, t, S => if stop S = true then S else zwRun step stop c (t + 1) (step t S)
def zwZero : ZS := (fun _ => 0, fun _ => 0, fun _ => 0, fun _ => -1, fun _ => 0, fun _ => 0, -1, 0, 0, 0)
/-- is one of the boxes of the bits dead -/
def zwDead (bits : Int) (S : ZS) : Bool := (List.range 6).any (fun b => bt bits b && decide (S.fa b ≠ 0))
def zwFly (W : ZW) (F : Int → Nat → Int) (n bits : Int) : ZS := zwRun (fun t S => zwTick W (F t) t (-1) S) (zwDead bits) n.toNat 0 zwZero
def zwStep (W : ZW) (F : Int → Nat → Int) (b fr y t : Int) (S : ZS) : ZS :=
  if t ≥ fr ∧ y ≠ 0 then zwKill b y (zwTick W (F t) t (if t < fr then -1 else b) S) else zwTick W (F t) t (if t < fr then -1 else b) S
def zwFlyX (W : ZW) (F : Int → Nat → Int) (n b fr y : Int) : ZS := zwRun (zwStep W F b fr y) (fun _ => false) n.toNat 0 zwZero
/-- what is told well -/
def ZW.okL (W : ZW) (b l : Int) : Prop := (0 ≤ (W.at3 b l).1 ∧ (W.at3 b l).1 ≤ (W.at3 b l).2.1 ∧ (W.at3 b l).2.1 ≤ (W.at3 b l).2.2 ∧ (W.at3 b l).2.2 ≤ 160) ∧
  ((W.at3 b l).1 < (W.at3 b l).2.1 → sWF (W.cd b) ((W.at3 b l).2.1 - (W.at3 b l).1).toNat (W.at3 b l).1 0) ∧ sWF (W.cd b) ((W.at3 b l).2.2 - (W.at3 b l).2.1).toNat (W.at3 b l).2.1 0 ∧
  (0 ≤ W.tg b l ∧ W.tg b l ≤ 13 ∧ (W.tg b l < 10 → W.tg b l ≤ 7)) ∧ (∀ j, (W.at3 b l).1 ≤ j → j < (W.at3 b l).2.2 → (W.cd b j).1 < 17 ∧ 0 ≤ (W.cd b j).2 ∧ (W.cd b j).2 < 2 ^ 20)
def ZW.okB (W : ZW) (b : Int) : Prop := (0 ≤ W.nl b ∧ W.nl b ≤ 12) ∧ (∀ l, 0 ≤ l → l < W.nl b → W.okL b l) ∧ (∀ i, 0 ≤ i → i ≤ 3 → -1 ≤ W.wi b i ∧ W.wi b i ≤ 53 ∧ (0 ≤ W.wi b i → W.wi b i % 10 ≤ 3)) ∧ ∀ r, 0 ≤ r → r ≤ 7 → 1 ≤ W.mo b r ∧ W.mo b r ≤ 524287
def ZW.ok (W : ZW) : Prop := (0 ≤ W.nb ∧ W.nb ≤ 6) ∧ ∀ b, 0 ≤ b → b < W.nb → W.okB b
/-- a part gives the same by words and readings that are the same -/
theorem sEV_cg {cd cd' : Int → Nat × Int} {rd rd' : Nat → Int → Int × Int} {d : Int} : ∀ (c : Nat) (k n : Int) (f : Nat → Int), (∀ j, k ≤ j → j < k + c → cd' (j + d) = cd j) → (∀ (w : Nat) (v : Int), w < 6 → (w = 0 → 0 ≤ v ∧ v ≤ 99999) → (w = 1 → 0 ≤ v ∧ v ≤ 7) → (w = 2 → 0 ≤ v ∧ v ≤ 3) → (w = 3 → 0 ≤ v ∧ v ≤ 2) → rd' w v = rd w v) → sWF cd c k n → sEV cd' rd' c (k + d) n f = sEV cd rd c k n f := by
  intro c
  induction c with
  | zero => intro k n f _ _ _; rfl
  | succ c ih =>
    intro k n f hc hr hw
    have e := hc k (Int.le_refl _) (by omega)
    have hc' : ∀ j, k + 1 ≤ j → j < k + 1 + c → cd' (j + d) = cd j := fun j h1 h2 => hc j (by omega) (by omega)
    have ek : k + d + 1 = (k + 1) + d := by omega
    unfold sWF at hw
    obtain ⟨-, hw⟩ := hw
    unfold sEV
    rw [e, ek]
    rcases hw with ⟨h, g0, g1, g2, g3, w⟩ | ⟨h, -, w⟩ | ⟨h, h2, -, w⟩
    · rw [hr _ _ h g0 g1 g2 g3, if_pos h, if_pos h]
      split
      · rfl
      · exact ih _ _ _ hc' hr w
    · have n1 : ¬ (cd k).1 < 6 := by omega
      rw [if_neg n1, if_neg n1, if_pos h, if_pos h]
      exact ih _ _ _ hc' hr w
    · have n1 : ¬ (cd k).1 < 6 := by omega
      have n2 : ¬ (cd k).1 = 6 := by omega
      rw [if_neg n1, if_neg n1, if_neg n2, if_neg n2]
      split
      · rfl
      · exact ih _ _ _ hc' hr w
theorem sWF_cg {cd cd' : Int → Nat × Int} {d : Int} : ∀ (c : Nat) (k n : Int), (∀ j, k ≤ j → j < k + c → cd' (j + d) = cd j) → sWF cd' c (k + d) n → sWF cd c k n := by
  intro c
  induction c with
  | zero => intro k n _ h; exact h
  | succ c ih =>
    intro k n hc hw
    have e := hc k (Int.le_refl _) (by omega)
    have hc' : ∀ j, k + 1 ≤ j → j < k + 1 + c → cd' (j + d) = cd j := fun j h1 h2 => hc j (by omega) (by omega)
    have ek : k + d + 1 = (k + 1) + d := by omega
    unfold sWF at hw ⊢
    rw [e, ek] at hw
    obtain ⟨h0, hw⟩ := hw
    refine ⟨h0, ?_⟩
    rcases hw with ⟨h, g0, g1, g2, g3, w⟩ | ⟨h, h1, w⟩ | ⟨h, h2, h3, w⟩
    · exact Or.inl ⟨h, g0, g1, g2, g3, ih _ _ hc' w⟩
    · exact Or.inr (Or.inl ⟨h, h1, ih _ _ hc' w⟩)
    · exact Or.inr (Or.inr ⟨h, h2, h3, ih _ _ hc' w⟩)
theorem eV_cg {cd cd' : Int → Nat × Int} {rd rd' : Nat → Int → Int × Int} {d : Int} {c : Nat} {k : Int} (hc : ∀ j, k ≤ j → j < k + c → cd' (j + d) = cd j) (hr : ∀ (w : Nat) (v : Int), w < 6 → (w = 0 → 0 ≤ v ∧ v ≤ 99999) → (w = 1 → 0 ≤ v ∧ v ≤ 7) → (w = 2 → 0 ≤ v ∧ v ≤ 3) → (w = 3 → 0 ≤ v ∧ v ≤ 2) → rd' w v = rd w v) (hw : sWF cd c k 0) : eV cd' rd' c (k + d) = eV cd rd c k := by
  unfold eV
  rw [sEV_cg c k 0 _ hc hr hw]

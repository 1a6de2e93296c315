/-! a line of a text -/
def kxt (c : Int → Int) (a b : Int) : Int := if c a = b then 1 else 0
theorem kxt_c (c : Int → Int) (a b : Int) : (c a = b ∧ kxt c a b = 1) ∨ (c a ≠ b ∧ kxt c a b = 0) := by
  unfold kxt
  by_cases h : c a = b
  · exact Or.inl ⟨h, if_pos h⟩
  · exact Or.inr ⟨h, if_neg h⟩
abbrev LRec : Type := Int × Int × Int × Int × Int × Int
def pTest (c : Int → Int) (six : Bool) (s : PSt) : PRes :=
  if c s.1 = 63 then pThen (pAll c six (s.1 + 1, s.2)) (fun q => if c q.1 = 58 then .ok (q.1 + 1, q.2) else .error q.1) else .ok s
def pTgt (c : Int → Int) (a : Int) : Except Int Int :=
  if c a = 114 then (if 48 ≤ c (a + 1) ∧ c (a + 1) ≤ 55 then .ok (c (a + 1) - 48) else .error (a + 1))
  else if c a = 115 then (if 48 ≤ c (a + 1) ∧ c (a + 1) ≤ 51 then .ok ((c (a + 1) - 48) + 10) else .error (a + 1))
  else .error a
/-- a line behind its test: target, = and the whole part -/
def pRest (c : Int → Int) (six : Bool) (cc bb : Int) (q : PSt) : Except Int (PSt × LRec) :=
  match pTgt c (q.1 + kxt c q.1 33) with
  | .error p => .error p
  | .ok g => if c (((q.1 + kxt c q.1 33) + 1) + 1) = 61 then
      (match pAll c six (((((q.1 + kxt c q.1 33) + 1) + 1) + 1), q.2) with
      | .error p => .error p
      | .ok r => .ok (r, cc, bb, q.2.length, kxt c q.1 33, g, r.2.length))
    else .error (((q.1 + kxt c q.1 33) + 1) + 1)
def pLine (c : Int → Int) (six : Bool) (s : PSt) : Except Int (PSt × LRec) :=
  match pTest c six (s.1 + kxt c s.1 107, s.2) with
  | .error p => .error p
  | .ok q => pRest c six (kxt c s.1 107) s.2.length q
/-- what reading line l leaves as it was -/
def FL (l : Int) (m N : AM) : Prop := N.2 = m.2 ∧ ∀ o j : Nat, ¬ ((o = 98 ∨ o = 99) ∧ 1020 ≤ j) → ¬ (o = 86 ∧ 17 ≤ j ∧ j ≤ 20) → ¬ ((92 ≤ o ∧ o ≤ 97) ∧ j = (72 + l).toNat) → ¬ (o = 91 ∧ j = 6) → N.1 o j = m.1 o j
theorem FL.rf (l : Int) (m : AM) : FL l m m := ⟨rfl, fun _ _ _ _ _ _ => rfl⟩
theorem FL.fp {l : Int} {m M N : AM} (h : FL l m M) (h2 : FP M N) : FL l m N := ⟨h2.1.trans h.1, fun o j a b c d => (h2.2 o j a b).trans (h.2 o j a b c d)⟩
theorem FL.cell {l : Int} {m N : AM} (h : FL l m N) {o j : Nat} (h1 : ¬ ((o = 98 ∨ o = 99) ∧ 1020 ≤ j)) (h2 : ¬ (o = 86 ∧ 17 ≤ j ∧ j ≤ 20)) (h3 : ¬ ((92 ≤ o ∧ o ≤ 97) ∧ j = (72 + l).toNat)) (h4 : ¬ (o = 91 ∧ j = 6)) : mi N o j = mi m o j := by
  show (zi (N.1 o j)).toInt = (zi (m.1 o j)).toInt
  rw [h.2 o j h1 h2 h3 h4]
theorem FL.row {l : Int} {m N : AM} (h : FL l m N) {o k : Nat} (hk : ((92 ≤ o ∧ o ≤ 97) ∧ k = (72 + l).toNat) ∨ (o = 91 ∧ k = 6)) (v : Int) : FL l m (si N o k v) := ⟨h.1, fun p j h1 h2 h3 h4 => by
  show (if p = o ∧ j = k then v else N.1 p j) = m.1 p j
  rw [if_neg (by rintro ⟨rfl, rfl⟩; omega)]
  exact h.2 p j h1 h2 h3 h4⟩
theorem FL.ch {l : Int} {m N : AM} (h : FL l m N) : chR N = chR m := by
  funext x
  unfold chR
  rw [h.cell (by omega) (by omega) (by omega) (by omega), h.cell (by omega) (by omega) (by omega) (by omega)]
theorem FL.st {l : Int} {m N : AM} (h : FL l m N) (hS : St m) : St N := hS.sub (by rw [h.1])
def Rows (N : AM) (l c b t w g : Int) : Prop := mi N 92 (72 + l).toNat = c ∧ mi N 95 (72 + l).toNat = b ∧ mi N 96 (72 + l).toNat = t ∧ mi N 93 (72 + l).toNat = w ∧ mi N 94 (72 + l).toNat = g
theorem Rows.fp {N M : AM} {l c b t w g : Int} (h : Rows N l c b t w g) (f : FP N M) : Rows M l c b t w g :=
  ⟨(f.cell (by omega) (by omega)).trans h.1, (f.cell (by omega) (by omega)).trans h.2.1, (f.cell (by omega) (by omega)).trans h.2.2.1, (f.cell (by omega) (by omega)).trans h.2.2.2.1, (f.cell (by omega) (by omega)).trans h.2.2.2.2⟩
theorem Rows.other {N : AM} {l c b t w g : Int} (h : Rows N l c b t w g) {o : Nat} (ho : o = 97 ∨ o = 91) (k : Nat) (v : Int) : Rows (si N o k v) l c b t w g :=
  ⟨(mi_si_ne _ _ (by omega)).trans h.1, (mi_si_ne _ _ (by omega)).trans h.2.1, (mi_si_ne _ _ (by omega)).trans h.2.2.1, (mi_si_ne _ _ (by omega)).trans h.2.2.2.1, (mi_si_ne _ _ (by omega)).trans h.2.2.2.2⟩
theorem Rows.s92 {N : AM} {l c b t w g : Int} (h : Rows N l c b t w g) {v : Int} (h1 : -2147483648 ≤ v) (h2 : v < 2147483648) : Rows (si N 92 (72 + l).toNat v) l v b t w g :=
  ⟨mi_si_same _ _ _ h1 h2, (mi_si_ne _ _ (by omega)).trans h.2.1, (mi_si_ne _ _ (by omega)).trans h.2.2.1, (mi_si_ne _ _ (by omega)).trans h.2.2.2.1, (mi_si_ne _ _ (by omega)).trans h.2.2.2.2⟩
theorem Rows.s95 {N : AM} {l c b t w g : Int} (h : Rows N l c b t w g) {v : Int} (h1 : -2147483648 ≤ v) (h2 : v < 2147483648) : Rows (si N 95 (72 + l).toNat v) l c v t w g :=
  ⟨(mi_si_ne _ _ (by omega)).trans h.1, mi_si_same _ _ _ h1 h2, (mi_si_ne _ _ (by omega)).trans h.2.2.1, (mi_si_ne _ _ (by omega)).trans h.2.2.2.1, (mi_si_ne _ _ (by omega)).trans h.2.2.2.2⟩
theorem Rows.s96 {N : AM} {l c b t w g : Int} (h : Rows N l c b t w g) {v : Int} (h1 : -2147483648 ≤ v) (h2 : v < 2147483648) : Rows (si N 96 (72 + l).toNat v) l c b v w g :=
  ⟨(mi_si_ne _ _ (by omega)).trans h.1, (mi_si_ne _ _ (by omega)).trans h.2.1, mi_si_same _ _ _ h1 h2, (mi_si_ne _ _ (by omega)).trans h.2.2.2.1, (mi_si_ne _ _ (by omega)).trans h.2.2.2.2⟩
theorem Rows.s93 {N : AM} {l c b t w g : Int} (h : Rows N l c b t w g) {v : Int} (h1 : -2147483648 ≤ v) (h2 : v < 2147483648) : Rows (si N 93 (72 + l).toNat v) l c b t v g :=
  ⟨(mi_si_ne _ _ (by omega)).trans h.1, (mi_si_ne _ _ (by omega)).trans h.2.1, (mi_si_ne _ _ (by omega)).trans h.2.2.1, mi_si_same _ _ _ h1 h2, (mi_si_ne _ _ (by omega)).trans h.2.2.2.2⟩
theorem Rows.s94 {N : AM} {l c b t w g : Int} (h : Rows N l c b t w g) {v : Int} (h1 : -2147483648 ≤ v) (h2 : v < 2147483648) : Rows (si N 94 (72 + l).toNat v) l c b t w v :=
  ⟨(mi_si_ne _ _ (by omega)).trans h.1, (mi_si_ne _ _ (by omega)).trans h.2.1, (mi_si_ne _ _ (by omega)).trans h.2.2.1, (mi_si_ne _ _ (by omega)).trans h.2.2.2.1, mi_si_same _ _ _ h1 h2⟩
theorem PS.row {N : AM} {a o : Int} {w : List (Nat × Int)} (h : PS N a o w) {p : Nat} (hp : 91 ≤ p ∧ p ≤ 97) (k : Nat) (v : Int) : PS (si N p k v) a o w := by
  refine ⟨(mi_si_ne _ _ (by omega)).trans h.1, (mi_si_ne _ _ (by omega)).trans h.2.1, (mi_si_ne _ _ (by omega)).trans h.2.2.1, (mi_si_ne _ _ (by omega)).trans h.2.2.2.1, fun i hi => ?_⟩
  rw [← h.2.2.2.2 i hi]
  unfold cdX
  rw [mi_si_ne _ _ (by omega), mi_si_ne _ _ (by omega)]
theorem IM.line {N : AM} (h : IM N) {p : Nat} (k : Nat) (lo hi : Int) {v : Int} (hp : (p, lo, hi) ∈ ([(91, 0, 12), (92, 0, 1), (93, 0, 1), (94, 0, 13), (95, 0, 160), (96, 0, 160), (97, 0, 170)] : List (Nat × Int × Int))) (hv : lo ≤ v ∧ v ≤ hi) : IM (si N p k v) := by
  simp only [List.mem_cons, Prod.mk.injEq, List.not_mem_nil, or_false] at hp
  rcases hp with ⟨rfl, rfl, rfl⟩ | ⟨rfl, rfl, rfl⟩ | ⟨rfl, rfl, rfl⟩ | ⟨rfl, rfl, rfl⟩ | ⟨rfl, rfl, rfl⟩ | ⟨rfl, rfl, rfl⟩ | ⟨rfl, rfl, rfl⟩
  · exact h.cell 0 12 (fun q hq e _ => (by decide : ∀ q ∈ imA, q.1 = 91 → q.2.1 = 0 ∧ q.2.2 = 12) q hq e) (by decide) hv (by omega) (by decide) (by decide) (by omega) (by decide)
  · exact h.cell 0 1 (fun q hq e _ => (by decide : ∀ q ∈ imA, q.1 = 92 → q.2.1 = 0 ∧ q.2.2 = 1) q hq e) (by decide) hv (by omega) (by decide) (by decide) (by omega) (by decide)
  · exact h.cell 0 1 (fun q hq e _ => (by decide : ∀ q ∈ imA, q.1 = 93 → q.2.1 = 0 ∧ q.2.2 = 1) q hq e) (by decide) hv (by omega) (by decide) (by decide) (by omega) (by decide)
  · exact h.cell 0 13 (fun q hq e _ => (by decide : ∀ q ∈ imA, q.1 = 94 → q.2.1 = 0 ∧ q.2.2 = 13) q hq e) (by decide) hv (by omega) (by decide) (by decide) (by omega) (by decide)
  · exact h.cell 0 160 (fun q hq e _ => (by decide : ∀ q ∈ imA, q.1 = 95 → q.2.1 = 0 ∧ q.2.2 = 160) q hq e) (by decide) hv (by omega) (by decide) (by decide) (by omega) (by decide)
  · exact h.cell 0 160 (fun q hq e _ => (by decide : ∀ q ∈ imA, q.1 = 96 → q.2.1 = 0 ∧ q.2.2 = 160) q hq e) (by decide) hv (by omega) (by decide) (by decide) (by omega) (by decide)
  · exact h.cell 0 170 (fun q hq e _ => (by decide : ∀ q ∈ imA, q.1 = 97 → q.2.1 = 0 ∧ q.2.2 = 170) q hq e) (by decide) hv (by omega) (by decide) (by decide) (by omega) (by decide)
/-- reading line l came to an end -/
def PQ (l : Int) (m N : AM) (R : Except Int (PSt × LRec)) : Prop := FL l m N ∧ IM N ∧ (match R with
  | .ok z => PS N z.1.1 0 z.1.2 ∧ mi N 91 6 = l + 1 ∧ Rows N l z.2.1 z.2.2.1 z.2.2.2.1 z.2.2.2.2.1 z.2.2.2.2.2.1 ∧ mi N 97 (72 + l).toNat = z.2.2.2.2.2.2
  | .error p => mi N 86 18 = p ∧ 0 ≤ p)
theorem ct_X12_isNextU {G : QW} {m : AM} {a o : Int} {w : List (Nat × Int)} {b : Int} (hS : St m) (hI0 : IM m) (h : PS m a o w) (ha0 : 0 ≤ a) (ha1 : a ≤ mi m 86 16) (hl : (w.length : Int) ≤ a) (hb : 0 ≤ b ∧ b ≤ 200) : qM G mX12_isNext 1 0 0 [vR 86, vI b] m (fun r m' => r = some (vI (kxt (chR m) a b)) ∧ FP m m' ∧ IM m' ∧ PS m' (a + kxt (chR m) a b) o w) := by
  have htp := hI0.s 86 16 0 160 (by decide)
  refine (ct_X12_isNext hS hI0 h ha0 ha1 hl hb).mono ?_
  rintro r m' (⟨h1, h2, h3⟩ | ⟨h1, h2, h3⟩)
  · have e : kxt (chR m) a b = 1 := if_pos h1
    rw [e, h3]
    exact ⟨h2, (FP.rf m).one (o := 86) (k := 17) (Or.inr (by omega)) _, hI0.read (by omega) _, h.adv (by omega) (by omega)⟩
  · have e : kxt (chR m) a b = 0 := if_neg h1
    rw [e, h3, Int.add_zero]
    exact ⟨h2, FP.rf m, hI0, h⟩


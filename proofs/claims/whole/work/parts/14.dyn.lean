/-! objects that are made later, or of which there are several: an object with the arrays behind it -/
def fsBox : List (Nat × Nat × Nat × Nat) := [(2, 1, 13, 8), (3, 2, 13, 4)]
def fsFlight : List (Nat × Nat × Nat × Nat) := [(0, 1, 13, 3), (1, 2, 13, 3), (2, 3, 13, 3), (3, 4, 13, 3), (4, 5, 20, 3)]
def fsProg : List (Nat × Nat × Nat × Nat) := [(0, 1, 13, 160), (1, 2, 13, 12), (2, 3, 13, 12), (3, 4, 13, 12), (4, 5, 13, 12)]
def fsShelf : List (Nat × Nat × Nat × Nat) := [(0, 1, 14, 60), (1, 2, 15, 60)]
def fsStand : List (Nat × Nat × Nat × Nat) := [(0, 1, 13, 48), (1, 2, 13, 24), (2, 3, 13, 6), (3, 4, 13, 6), (4, 5, 13, 6), (5, 6, 13, 6), (6, 7, 13, 4)]
def ObA (m : AM) (a c : Nat) (fs : List (Nat × Nat × Nat × Nat)) : Prop := a < mz m ∧ mk m a = c ∧ ∀ q ∈ fs, mr m a q.1 = some (a + q.2.1) ∧ a + q.2.1 < mz m ∧ mk m (a + q.2.1) = q.2.2.1 ∧ mn m (a + q.2.1) = q.2.2.2
theorem ObA.q {m : AM} {a c : Nat} {fs : List (Nat × Nat × Nat × Nat)} (h : ObA m a c fs) (k d kd n : Nat) (hq : (k, d, kd, n) ∈ fs) : mr m a k = some (a + d) ∧ a + d < mz m ∧ mk m (a + d) = kd ∧ mn m (a + d) = n := h.2.2 (k, d, kd, n) hq
/-- the address of box b, of its program, of flight f -/
def bx (m : AM) (b : Int) : Nat := (mr m 3 b.toNat).getD 0
def pg (m : AM) (b : Int) : Nat := (mr m (bx m b) 4).getD 0
def fl (m : AM) (f : Int) : Nat := (mr m 4 f.toNat).getD 0
def HX (m : AM) : Prop := ∀ b : Int, 0 ≤ b → b < mi m 0 16 → mr m 3 b.toNat = some (bx m b) ∧ ObA m (bx m b) 1 fsBox ∧ mr m (bx m b) 4 = some (pg m b) ∧ ObA m (pg m b) 5 fsProg ∧ (0 ≤ mi m (pg m b) 6 ∧ mi m (pg m b) 6 ≤ 12) ∧ (0 ≤ mi m (bx m b) 1 ∧ mi m (bx m b) 1 ≤ 6) ∧ (-1 ≤ mi m (bx m b) 5 ∧ mi m (bx m b) 5 ≤ 5)
def HF (m : AM) : Prop := ∀ f : Int, 0 ≤ f → f < mi m 0 17 → mr m 4 f.toNat = some (fl m f) ∧ ObA m (fl m f) 3 fsFlight ∧ ∀ k, k < 3 → mr m (fl m f + 5) k = some (fl m f + 6 + k) ∧ fl m f + 6 + k < mz m ∧ mk m (fl m f + 6 + k) = 13 ∧ mn m (fl m f + 6 + k) = 60
theorem St.sh {m : AM} (h : St m) (s : Int) (h0 : 0 ≤ s) (h1 : s ≤ 5) : mr m 5 s.toNat = some (68 + 3 * s.toNat) ∧ ObA m (68 + 3 * s.toNat) 7 fsShelf := by
  have hs : s = 0 ∨ s = 1 ∨ s = 2 ∨ s = 3 ∨ s = 4 ∨ s = 5 := by omega
  have key : ∀ n : Nat, n < 6 → mr m 5 n = some (68 + 3 * n) ∧ ObA m (68 + 3 * n) 7 fsShelf := by
    intro n hn
    have b1 : ∀ k, k < 6 → (5, k, 68 + 3 * k) ∈ rL := by decide +kernel
    have b2 : ∀ k, k < 6 → (68 + 3 * k, 0, 68 + 3 * k + 1) ∈ rL := by decide +kernel
    have b3 : ∀ k, k < 6 → (68 + 3 * k, 1, 68 + 3 * k + 2) ∈ rL := by decide +kernel
    have b4 : ∀ k, k < 6 → kL.getD (68 + 3 * k) 0 = 7 ∧ kL.getD (68 + 3 * k + 1) 0 = 14 ∧ kL.getD (68 + 3 * k + 2) 0 = 15 := by decide +kernel
    have b5 : ∀ k, k < 6 → nL.getD (68 + 3 * k + 1) 0 = 60 ∧ nL.getD (68 + 3 * k + 2) 0 = 60 := by decide +kernel
    have a1 := b1 n hn
    have a2 := b2 n hn
    have a3 := b3 n hn
    obtain ⟨a4, a5, a6⟩ := b4 n hn
    obtain ⟨a7, a8⟩ := b5 n hn
    refine ⟨h.r a1, h.lt (by omega), h.k (by omega) a4, fun q hq => ?_⟩
    have hq2 : q = (0, 1, 14, 60) ∨ q = (1, 2, 15, 60) := by simpa [fsShelf] using hq
    rcases hq2 with rfl | rfl
    · exact ⟨h.r a2, h.lt (by show 68 + 3 * n + 1 < 145; omega), h.k (by show 68 + 3 * n + 1 < 145; omega) a5, h.n (by show 68 + 3 * n + 1 < 145; omega) a7⟩
    · exact ⟨h.r a3, h.lt (by show 68 + 3 * n + 2 < 145; omega), h.k (by show 68 + 3 * n + 2 < 145; omega) a6, h.n (by show 68 + 3 * n + 2 < 145; omega) a8⟩
  exact key s.toNat (by omega)
/-! a stretch of a row set to one value -/
def fil (m : AM) (o : Nat) (a e v : Int) : AM := (fun (p j : Nat) => if p = o ∧ a ≤ (j : Int) ∧ (j : Int) < e then v else m.1 p j, m.2)
theorem fil_0 (m : AM) (o : Nat) {a e : Int} (v : Int) (h : e ≤ a) : fil m o a e v = m := by
  have e1 : (fun (p j : Nat) => if p = o ∧ a ≤ (j : Int) ∧ (j : Int) < e then v else m.1 p j) = m.1 := by
    funext p j
    exact if_neg (fun q => by omega)
  show (_, m.2) = m
  rw [e1]
theorem fil_si {m : AM} {o j : Nat} {a e v : Int} (h0 : 0 ≤ a) (h : a ≤ e) (hj : j = e.toNat) : si (fil m o a e v) o j v = fil m o a (e + 1) v := by
  subst hj
  have e1 : u2 (fun (p j : Nat) => if p = o ∧ a ≤ (j : Int) ∧ (j : Int) < e then v else m.1 p j) o e.toNat v = (fun (p j : Nat) => if p = o ∧ a ≤ (j : Int) ∧ (j : Int) < e + 1 then v else m.1 p j) := by
    funext p j
    show (if p = o ∧ j = e.toNat then v else if p = o ∧ a ≤ (j : Int) ∧ (j : Int) < e then v else m.1 p j) = if p = o ∧ a ≤ (j : Int) ∧ (j : Int) < e + 1 then v else m.1 p j
    by_cases hp : p = o
    · by_cases hj : j = e.toNat
      · rw [if_pos ⟨hp, hj⟩, if_pos ⟨hp, by omega, by omega⟩]
      · rw [if_neg (fun q => hj q.2)]
        by_cases h3 : a ≤ (j : Int) ∧ (j : Int) < e
        · rw [if_pos ⟨hp, h3⟩, if_pos ⟨hp, by omega, by omega⟩]
        · rw [if_neg (fun q => h3 q.2), if_neg (fun q => h3 ⟨q.2.1, by omega⟩)]
    · rw [if_neg (fun q => hp q.1), if_neg (fun q => hp q.1), if_neg (fun q => hp q.1)]
  show (_, _) = (_, _)
  rw [show (fil m o a e v).1 = (fun (p j : Nat) => if p = o ∧ a ≤ (j : Int) ∧ (j : Int) < e then v else m.1 p j) from rfl, e1]
  rfl
theorem St.fil {m : AM} (h : St m) (o : Nat) (a e v : Int) : St (fil m o a e v) := h
theorem mi_fil (m : AM) (o : Nat) (a e v : Int) (p j : Nat) : mi (fil m o a e v) p j = if p = o ∧ a ≤ (j : Int) ∧ (j : Int) < e then (zi v).toInt else mi m p j := by
  show (zi (if p = o ∧ a ≤ (j : Int) ∧ (j : Int) < e then v else m.1 p j)).toInt = _
  by_cases h : p = o ∧ a ≤ (j : Int) ∧ (j : Int) < e
  · rw [if_pos h, if_pos h]
  · rw [if_neg h, if_neg h]
    rfl
def RB (R : Room) (d : Nat) : Prop := d ≤ R.frames ∧ 60 * d ≤ R.locals
theorem RB.call {R : Room} {d d2 n : Nat} (h : RB R d) (h1 : d2 + 1 ≤ d) (h2 : n ≤ 41) : d2 + 1 ≤ R.frames ∧ 8 + (n + 11) + 60 * d2 ≤ R.locals := by
  obtain ⟨a, b⟩ := h
  constructor <;> omega
theorem el17 : qEl 17 RX1 := Or.inl ⟨rfl, rfl⟩
theorem el18 : qEl 18 RX3 := Or.inr (Or.inl ⟨rfl, rfl⟩)
theorem el19 : qEl 19 RX7 := Or.inr (Or.inr ⟨rfl, rfl⟩)
theorem qJ_mem {G : QW} {md : MD} {R : Room} {F : QFin} {pc : Nat} {ls : List (Nat × Vl)} {st : List Vl} {m m' : AM} {cc cs : Nat} (h : m' = m) (k : qJ G md R F pc ls st m' cc cs) : qJ G md R F pc ls st m cc cs := h ▸ k
theorem si_fil {m : AM} {o o' j : Nat} {a e v v' : Int} (h : o ≠ o') : si (fil m o' a e v') o j v = fil (si m o j v) o' a e v' := by
  have e1 : u2 (fun (p j : Nat) => if p = o' ∧ a ≤ (j : Int) ∧ (j : Int) < e then v' else m.1 p j) o j v = (fun (p i : Nat) => if p = o' ∧ a ≤ (i : Int) ∧ (i : Int) < e then v' else u2 m.1 o j v p i) := by
    funext p i
    show (if p = o ∧ i = j then v else if p = o' ∧ a ≤ (i : Int) ∧ (i : Int) < e then v' else m.1 p i) = if p = o' ∧ a ≤ (i : Int) ∧ (i : Int) < e then v' else if p = o ∧ i = j then v else m.1 p i
    by_cases h1 : p = o ∧ i = j
    · have h2 : ¬ (p = o' ∧ a ≤ (i : Int) ∧ (i : Int) < e) := fun q => h (h1.1.symm.trans q.1)
      rw [if_pos h1, if_neg h2, if_pos h1]
    · rw [if_neg h1, if_neg h1]
  show (_, _) = (_, _)
  rw [show (fil m o' a e v').1 = (fun (p j : Nat) => if p = o' ∧ a ≤ (j : Int) ∧ (j : Int) < e then v' else m.1 p j) from rfl, e1]
  rfl
theorem ml_fil (m : AM) (o : Nat) (a e v : Int) : ml (fil m o a e v) = ml m := rfl
theorem mr_fil (m : AM) (o : Nat) (a e v : Int) : mr (fil m o a e v) = mr m := rfl
/-! a row that takes over another one's first places -/
def cpr (m : AM) (o1 o0 : Nat) (e : Int) : AM := (fun p j => if p = o1 ∧ (j : Int) < e then mi m o0 j else m.1 p j, m.2)
theorem mi_cpr (m : AM) (o1 o0 : Nat) (e : Int) (p j : Nat) : mi (cpr m o1 o0 e) p j = if p = o1 ∧ (j : Int) < e then mi m o0 j else mi m p j := by
  show (zi (if p = o1 ∧ (j : Int) < e then mi m o0 j else m.1 p j)).toInt = _
  by_cases h : p = o1 ∧ (j : Int) < e
  · rw [if_pos h, if_pos h]
    exact zi_toInt (mi_rng m o0 j).1 (mi_rng m o0 j).2
  · rw [if_neg h, if_neg h]
    rfl
theorem ml_cpr (m : AM) (o1 o0 : Nat) (e : Int) : ml (cpr m o1 o0 e) = ml m := rfl
theorem mr_cpr (m : AM) (o1 o0 : Nat) (e : Int) : mr (cpr m o1 o0 e) = mr m := rfl
theorem St.cpr {m : AM} (h : St m) (o1 o0 : Nat) (e : Int) : St (cpr m o1 o0 e) := h
theorem cpr_0 (m : AM) (o1 o0 : Nat) {e : Int} (h : e ≤ 0) : cpr m o1 o0 e = m := by
  have e1 : (fun (p j : Nat) => if p = o1 ∧ (j : Int) < e then mi m o0 j else m.1 p j) = m.1 := by
    funext p j
    exact if_neg (fun q => by omega)
  show (_, m.2) = m
  rw [e1]
theorem cpr_si {m : AM} {o1 o0 j : Nat} {e v : Int} (h : 0 ≤ e) (hj : j = e.toNat) (hv : v = mi m o0 j) : si (cpr m o1 o0 e) o1 j v = cpr m o1 o0 (e + 1) := by
  subst hj
  subst hv
  have e1 : u2 (fun (p j : Nat) => if p = o1 ∧ (j : Int) < e then mi m o0 j else m.1 p j) o1 e.toNat (mi m o0 e.toNat) = (fun (p j : Nat) => if p = o1 ∧ (j : Int) < e + 1 then mi m o0 j else m.1 p j) := by
    funext p j
    show (if p = o1 ∧ j = e.toNat then mi m o0 e.toNat else if p = o1 ∧ (j : Int) < e then mi m o0 j else m.1 p j) = if p = o1 ∧ (j : Int) < e + 1 then mi m o0 j else m.1 p j
    by_cases hp : p = o1
    · by_cases hj : j = e.toNat
      · rw [if_pos ⟨hp, hj⟩, if_pos ⟨hp, by omega⟩, hj]
      · rw [if_neg (fun q => hj q.2)]
        by_cases h3 : (j : Int) < e
        · rw [if_pos ⟨hp, h3⟩, if_pos ⟨hp, by omega⟩]
        · rw [if_neg (fun q => h3 q.2), if_neg (fun q => h3 (by omega))]
    · rw [if_neg (fun q => hp q.1), if_neg (fun q => hp q.1), if_neg (fun q => hp q.1)]
  show (_, _) = (_, _)
  rw [show (cpr m o1 o0 e).1 = (fun (p j : Nat) => if p = o1 ∧ (j : Int) < e then mi m o0 j else m.1 p j) from rfl, e1]
  rfl
theorem si_cpr {m : AM} {o o1 o0 j : Nat} {e v : Int} (h : o ≠ o1) (h0 : o ≠ o0) : si (cpr m o1 o0 e) o j v = cpr (si m o j v) o1 o0 e := by
  have e1 : u2 (fun (p j : Nat) => if p = o1 ∧ (j : Int) < e then mi m o0 j else m.1 p j) o j v = (fun (p i : Nat) => if p = o1 ∧ (i : Int) < e then mi (si m o j v) o0 i else u2 m.1 o j v p i) := by
    funext p i
    have hm : mi (si m o j v) o0 i = mi m o0 i := mi_si_ne m v (fun q => h0 q.1.symm)
    rw [hm]
    show (if p = o ∧ i = j then v else if p = o1 ∧ (i : Int) < e then mi m o0 i else m.1 p i) = if p = o1 ∧ (i : Int) < e then mi m o0 i else if p = o ∧ i = j then v else m.1 p i
    by_cases h1 : p = o ∧ i = j
    · have h2 : ¬ (p = o1 ∧ (i : Int) < e) := fun q => h (h1.1.symm.trans q.1)
      rw [if_pos h1, if_neg h2, if_pos h1]
    · rw [if_neg h1, if_neg h1]
  show (_, _) = (_, _)
  rw [show (cpr m o1 o0 e).1 = (fun (p j : Nat) => if p = o1 ∧ (j : Int) < e then mi m o0 j else m.1 p j) from rfl, e1]
  rfl
theorem j_tableDef {G : QW} {md : MD} {R : Room} {F : QFin} {pc : Nat} {ls : List (Nat × Vl)} {st : List Vl} {m : AM} {cc cs : Nat} {dflt lo hi : Int} {offs : Array Int} {len : Nat} {a : Int} {tgt : Nat} (hd : qlk md.c pc = some (.tableswitch dflt lo hi offs, len)) (ha : -2147483648 ≤ a) (ha2 : a < 2147483648) (h : a < lo ∨ hi < a ∨ offs[(a - lo).toNat]? = some dflt) (ht : (pc : Int) + dflt = (tgt : Int)) (k : qJ G md R F tgt ls st m cc cs) : qJ G md R F pc ls (vI a :: st) m cc cs := by
  by_cases h1 : a < lo
  · exact j_tableOut hd ha ha2 (Or.inl h1) ht k
  · by_cases h2 : hi < a
    · exact j_tableOut hd ha ha2 (Or.inr h2) ht k
    · rcases h with h | h | h
      · exact absurd h h1
      · exact absurd h h2
      · exact j_tableIn hd ha ha2 h1 h2 h ht k

/-! what class and reference share between two calls: boxes, flights -/
/-- the world of the reference's rows, none told to watch besides -/
def wN (m : AM) : ZW := (mi m 86 1, fun b => mi m 87 b.toNat, fun b i => mi m 89 (4 * b + i).toNat, fun b => mi m 91 b.toNat, fun b l => mi m 92 ((12 * b) + l).toNat, fun b l => if 0 ≤ b then (if mi m 93 ((12 * b) + l).toNat ≠ 0 then 1 else 0) else 0, fun b l => mi m 94 ((12 * b) + l).toNat, fun b l => (mi m 95 ((12 * b) + l).toNat, mi m 96 ((12 * b) + l).toNat, mi m 97 ((12 * b) + l).toNat), fun b j => cdX m ((170 * b) + j), fun b r => FX12_mostOf m (mi m 88 ((8 * b) + r).toNat))
theorem wM_wN {m : AM} (h : mi m 86 48 < 0) : wM m = wN m := by
  have e : (fun b l => if 0 ≤ b then watX m b l ((12 * b) + l) else 0 : Int → Int → Int) = fun b l => if 0 ≤ b then (if mi m 93 ((12 * b) + l).toNat ≠ 0 then 1 else 0) else 0 := by
    funext b l
    by_cases hb : 0 ≤ b
    · rw [if_pos hb, if_pos hb]
      unfold watX
      by_cases c : mi m 93 ((12 * b) + l).toNat ≠ 0
      · rw [if_pos (Or.inl c), if_pos c]
      · rw [if_neg (by omega), if_neg c]
    · rw [if_neg hb, if_neg hb]
  unfold wM wN
  rw [e]
theorem wN_rows {m N : AM} (h : ∀ o ∈ ([87, 88, 89, 91, 92, 93, 94, 95, 96, 97, 98, 99] : List Nat), ∀ j : Nat, mi N o j = mi m o j) (h1 : mi N 86 1 = mi m 86 1) : wN N = wN m := by
  have e : ∀ o ∈ ([87, 88, 89, 91, 92, 93, 94, 95, 96, 97, 98, 99] : List Nat), mi N o = mi m o := fun o ho => funext (h o ho)
  have m0 : FX12_mostOf N = FX12_mostOf m := rfl
  unfold wN cdX
  simp only [m0, e 87 (by decide), e 88 (by decide), e 89 (by decide), e 91 (by decide), e 92 (by decide), e 93 (by decide), e 94 (by decide), e 95 (by decide), e 96 (by decide), e 97 (by decide), e 98 (by decide), e 99 (by decide), h1]
/-- boxes: class and reference -/
def K1 (m : AM) : Prop := mi m 0 16 = mi m 86 1 ∧ ∀ b : Int, 0 ≤ b → b < mi m 86 1 → AgB m (wN m) b ∧ mi m (bx m b) 5 = mi m 90 b.toNat
/-- a flight of the class is the reference's -/
def AgF (m : AM) (f : Int) : Prop := ∀ k : Nat, k < 3 → mi m (fl m f + 1) k = mi m 101 ((3 * f) + k).toNat ∧ mi m (fl m f + 2) k = mi m 102 ((3 * f) + k).toNat ∧ mi m (fl m f + 3) k = mi m 103 ((3 * f) + k).toNat ∧ mi m (fl m f + 4) k = mi m 104 ((3 * f) + k).toNat ∧ ∀ j : Nat, (j : Int) < mi m (fl m f + 4) k → mi m (fl m f + 6 + k) j = mi m 105 ((200 * ((3 * f) + k)) + j).toNat
def K2 (m : AM) : Prop := mi m 0 17 = mi m 86 21 ∧ ∀ f : Int, 0 ≤ f → f < mi m 86 21 → (mr m 4 f.toNat = some (fl m f) ∧ 145 ≤ fl m f) ∧ FLG m (fl m f) ∧ AgF m f
/-- cells that runs may write, on either side -/
def NQ (c j : Nat) : Prop := c = 12 ∨ (15 ≤ c ∧ c ≤ 21) ∨ (24 ≤ c ∧ c ≤ 51) ∨ (57 ≤ c ∧ c ≤ 61) ∨ (c = 0 ∧ (j = 18 ∨ j = 19)) ∨ (c = 86 ∧ ((35 ≤ j ∧ j ≤ 51) ∨ j = 62)) ∨ (106 ≤ c ∧ c ≤ 122) ∨ (125 ≤ c ∧ c ≤ 132)
/-- only these are written -/
def QU (m N : AM) : Prop := N.2.2.2 = m.2.2.2 ∧ (∀ c k : Nat, ¬ (c = 17 ∧ 4 ≤ k ∧ k ≤ 6) → mr N c k = mr m c k) ∧ (∀ c j : Nat, ¬ NQ c j → mi N c j = mi m c j) ∧ ∀ c j : Nat, ¬ (c = 15 ∨ c = 16 ∨ c = 21 ∨ scr c) → ml N c j = ml m c j
theorem QU.rf (m : AM) : QU m m := ⟨rfl, fun _ _ _ => rfl, fun _ _ _ => rfl, fun _ _ _ => rfl⟩
theorem QU.trans {m N K : AM} (h : QU m N) (h2 : QU N K) : QU m K := ⟨h2.1.trans h.1, fun c k hc => (h2.2.1 c k hc).trans (h.2.1 c k hc), fun c j hc => (h2.2.2.1 c j hc).trans (h.2.2.1 c j hc), fun c j hc => (h2.2.2.2 c j hc).trans (h.2.2.2 c j hc)⟩
theorem QU.zz {m N : AM} (h : QU m N) : mz N = mz m := congrArg (fun q => q.2.2) h.1
theorem QU.kk {m N : AM} (h : QU m N) : mk N = mk m := congrArg (fun q => q.1) h.1
theorem QU.nn {m N : AM} (h : QU m N) : mn N = mn m := congrArg (fun q => q.2.1) h.1
theorem QU.cell {m N : AM} (h : QU m N) {c k : Nat} (hc : NQ c k) (v : Int) : QU m (si N c k v) := ⟨h.1, h.2.1, fun p j hp => by
  rw [mi_si_ne _ _ (fun q => hp (by rw [q.1, q.2]; exact hc))]
  exact h.2.2.1 p j hp, h.2.2.2⟩
theorem QU.st {m N : AM} (h : QU m N) (hS : St m) : St N := by
  refine ⟨by rw [h.zz]; exact hS.1, fun n hn => by rw [h.kk, h.nn]; exact hS.2.1 n hn, fun q hq => ?_⟩
  rw [h.2.1 q.1 q.2.1 (fun e => (by decide +kernel : ∀ q ∈ rL, ¬ (q.1 = 17 ∧ 4 ≤ q.2.1 ∧ q.2.1 ≤ 6)) q hq e)]
  exact hS.2.2 q hq
theorem QU.ob {m N : AM} (h : QU m N) {a c : Nat} {fs : List (Nat × Nat × Nat × Nat)} (ha : a ≠ 17) (hO : ObA m a c fs) : ObA N a c fs := by
  refine ⟨by rw [h.zz]; exact hO.1, by rw [h.kk]; exact hO.2.1, fun q hq => ?_⟩
  rw [h.2.1 a q.1 (fun e => ha e.1), h.zz, h.kk, h.nn]
  exact hO.2.2 q hq
theorem TF.qu {m N : AM} {o : Nat} (t : TF o m N) (ho : sto o) : QU m N := by
  unfold sto at ho
  refine ⟨t.1, t.2.1, fun c j hc => t.cel (fun q => hc ?_) j, fun c j hc => t.lon (fun q => hc (Or.inr (Or.inr (Or.inl q)))) j⟩
  unfold tcl at q
  unfold NQ
  omega
theorem FQ.qu {m N : AM} (h : FQ m N) : QU m N := by
  refine ⟨by rw [h.1], fun c k _ => ?_, fun c j hc => h.cell ?_ ?_ ?_, fun c j hc => ?_⟩
  · show N.2.2.1 c k = m.2.2.1 c k
    rw [h.1]
  · intro q; apply hc; unfold NQ; omega
  · intro q; apply hc; unfold NQ; omega
  · intro q; apply hc; unfold NQ; omega
  · show (zl (N.2.1 c j)).toInt = (zl (m.2.1 c j)).toInt
    rw [h.2.1 c (fun q => hc (Or.inr (Or.inr (Or.inr q))))]
theorem SameP.qu {m N : AM} (h : SameP m N) : QU m N := (FQ.same h).qu
theorem QU.wn {m N : AM} (h : QU m N) : wN N = wN m := by
  refine wN_rows (fun o ho j => h.2.2.1 o j ?_) (h.2.2.1 86 1 (by unfold NQ; omega))
  exact fun q => (by decide : ∀ o ∈ ([87, 88, 89, 91, 92, 93, 94, 95, 96, 97, 98, 99] : List Nat), 87 ≤ o ∧ o ≤ 99) o ho |> fun z => by unfold NQ at q; omega
theorem QU.bxe {m N : AM} (h : QU m N) (b : Int) : bx N b = bx m b := by
  unfold bx
  rw [h.2.1 3 _ (fun e => absurd e.1 (by decide))]
theorem QU.fle {m N : AM} (h : QU m N) (b : Int) : fl N b = fl m b := by
  unfold fl
  rw [h.2.1 4 _ (fun e => absurd e.1 (by decide))]
theorem QU.pge {m N : AM} (h : QU m N) {b : Int} (hb : 145 ≤ bx m b) : pg N b = pg m b := by
  unfold pg
  rw [h.bxe b, h.2.1 (bx m b) 4 (fun e => by omega)]
theorem nqd {c : Nat} (hc : 145 ≤ c) (j : Nat) : ¬ NQ c j := by unfold NQ; omega
theorem nqp {c d : Nat} (hc : c = 62 ∨ 145 ≤ c) (hd : d ≤ 5) (j : Nat) : ¬ NQ (c + d) j := by unfold NQ; omega
theorem nqq {c : Nat} (hc : c = 62 ∨ 145 ≤ c) (j : Nat) : ¬ NQ c j := by unfold NQ; omega
theorem QU.agL {m N : AM} (h : QU m N) {p : Nat} (hp : p = 62 ∨ 145 ≤ p) {W : ZW} {b l : Int} (ha : AgL m p W b l) : AgL N p W b l := by
  unfold AgL at ha ⊢
  rw [h.2.2.1 p _ (nqq hp _), h.2.2.1 p _ (nqq hp _), h.2.2.1 (p + 2) _ (nqp hp (by decide) _), h.2.2.1 (p + 3) _ (nqp hp (by decide) _), h.2.2.1 (p + 4) _ (nqp hp (by decide) _), h.2.2.1 (p + 5) _ (nqp hp (by decide) _)]
  refine ⟨ha.1, ha.2.1, ha.2.2.1, ha.2.2.2.1, fun j h1 h2 => ?_⟩
  rw [h.2.2.1 (p + 1) _ (nqp hp (by decide) _)]
  exact ha.2.2.2.2 j h1 h2
theorem QU.agB {m N : AM} (h : QU m N) {W : ZW} {b : Int} (ha : AgB m W b) : AgB N W b := by
  obtain ⟨⟨a1, a2, a3, a4⟩, ⟨b1, b2⟩, c, d, e, f, g, i⟩ := ha
  have k : ∀ j r, mi N (bx m b + r) j = mi m (bx m b + r) j := fun j r => h.2.2.1 _ j (nqd (by omega) j)
  have k0 : ∀ j, mi N (bx m b) j = mi m (bx m b) j := fun j => h.2.2.1 _ j (nqd b1 j)
  unfold AgB
  rw [h.bxe b, h.pge b1]
  refine ⟨⟨?_, h.ob (by omega) a2, ?_, h.ob (by omega) a4⟩, ⟨b1, b2⟩, ?_, fun j => ?_, fun j h1 h2 => ?_, fun r h1 h2 => ?_, ?_, fun l h1 h2 => h.agL b2 (i l h1 h2)⟩
  · rw [h.2.1 3 _ (fun e => absurd e.1 (by decide))]; exact a1
  · rw [h.2.1 (bx m b) 4 (fun e => by omega)]; exact a3
  · rw [k0, k0]; exact c
  · rw [k]; exact d j
  · rw [k]; exact e j h1 h2
  · rw [← f r h1 h2]
    unfold FX1_greatestFor
    rw [k]
  · rw [h.2.2.1 _ 6 (nqq b2 6)]; exact g
theorem QU.k1 {m N : AM} (h : QU m N) (k : K1 m) : K1 N := by
  refine ⟨?_, fun b h0 h1 => ?_⟩
  · rw [h.2.2.1 0 16 (by unfold NQ; omega), h.2.2.1 86 1 (by unfold NQ; omega)]; exact k.1
  · rw [h.2.2.1 86 1 (by unfold NQ; omega)] at h1
    have q := k.2 b h0 h1
    rw [h.wn]
    refine ⟨h.agB q.1, ?_⟩
    rw [h.bxe, h.2.2.1 _ 5 (nqd q.1.2.1.1 5), h.2.2.1 90 _ (by unfold NQ; omega)]
    exact q.2
theorem QU.flg {m N : AM} (h : QU m N) {a : Nat} (ha : 145 ≤ a) (f : FLG m a) : FLG N a := by
  obtain ⟨a1, a2, a3, a4, a5, a6, a7, a8⟩ := f
  have k : ∀ r j, mi N (a + r) j = mi m (a + r) j := fun r j => h.2.2.1 _ j (nqd (by omega) j)
  refine ⟨h.ob (by omega) a1, a2, fun i hi => ?_, fun j => ?_, fun j => ?_, fun j => ?_, fun j => ?_, fun i hi j => ?_⟩
  · rw [h.2.1 (a + 5) i (fun e => by omega), h.zz, h.kk, h.nn]; exact a3 i hi
  · rw [k]; exact a4 j
  · rw [k]; exact a5 j
  · rw [k]; exact a6 j
  · rw [k]; exact a7 j
  · rw [Nat.add_assoc, k, ← Nat.add_assoc]; exact a8 i hi j
theorem QU.k2 {m N : AM} (h : QU m N) (k : K2 m) : K2 N := by
  refine ⟨?_, fun f h0 h1 => ?_⟩
  · rw [h.2.2.1 0 17 (by unfold NQ; omega), h.2.2.1 86 21 (by unfold NQ; omega)]; exact k.1
  · rw [h.2.2.1 86 21 (by unfold NQ; omega)] at h1
    obtain ⟨⟨q1, q2⟩, q3, q4⟩ := k.2 f h0 h1
    have e : ∀ r j, mi N (fl m f + r) j = mi m (fl m f + r) j := fun r j => h.2.2.1 _ j (nqd (by omega) j)
    unfold AgF
    rw [h.fle f, h.2.1 4 _ (fun e => absurd e.1 (by decide))]
    refine ⟨⟨q1, q2⟩, h.flg q2 q3, fun i hi => ?_⟩
    obtain ⟨r1, r2, r3, r4, r5⟩ := q4 i hi
    rw [e, e, e, e, h.2.2.1 101 _ (by unfold NQ; omega), h.2.2.1 102 _ (by unfold NQ; omega), h.2.2.1 103 _ (by unfold NQ; omega), h.2.2.1 104 _ (by unfold NQ; omega)]
    refine ⟨r1, r2, r3, r4, fun j hj => ?_⟩
    rw [Nat.add_assoc, e, ← Nat.add_assoc, h.2.2.1 105 _ (by unfold NQ; omega)]
    exact r5 j hj
/-- what is felt at a tick is the same -/
theorem felt_agree {m : AM} {f t : Int} (h : AgF m f) (hg : FLG m (fl m f)) (hf : 0 ≤ f) (ht : 0 ≤ t) (k : Nat) (hk : k < 3) : FX12_feltAt m ((3 * f) + k) t = feF m (fl m f) t k := by
  obtain ⟨r1, r2, r3, r4, r5⟩ := h k hk
  have hn := hg.2.2.2.2.2.2.1 k
  have hc := hg.2.2.2.2.2.1 k
  have e1 : ((k : Nat) : Int).toNat = k := by omega
  unfold feF
  rw [if_pos hk]
  unfold FX12_feltAt FX3_feltAt FX12_heldBy FJ9_max_7cf53 FJ9_min_7cf53
  rw [e1, ← r1, ← r2, ← r3, ← r4]
  by_cases c0 : mi m (fl m f + 4) k = 0
  · rw [c0]
    simp
  · by_cases c1 : mi m (fl m f + 4) k > 0
    · rw [if_pos (show mi m (fl m f + 4) k ≥ 0 by omega), if_pos c0]
      by_cases c2 : t ≥ mi m (fl m f + 4) k
      · have q := r5 (mi m (fl m f + 4) k - 1).toNat (by omega)
        rw [if_pos c2, show (200 * (3 * f + (k : Int))) + (mi m (fl m f + 4) k - 1) = (200 * (3 * f + (k : Int))) + (((mi m (fl m f + 4) k - 1).toNat : Nat) : Int) by omega, ← q]
        simp [c0, c1, c2]
        intro z
        exfalso
        omega
      · have q := r5 t.toNat (by omega)
        rw [if_neg c2, show (200 * (3 * f + (k : Int))) + t = (200 * (3 * f + (k : Int))) + ((t.toNat : Nat) : Int) by omega, ← q]
        simp [c0, c1, c2]
        intro z
        exfalso
        omega
    · rw [if_neg (show ¬ mi m (fl m f + 4) k ≥ 0 by omega)]
      simp [c0, c1]
      (repeat' split) <;> omega

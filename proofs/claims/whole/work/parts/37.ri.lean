/-! the reference, as its calls find it and leave it -/
def RI (m : AM) : Prop := RT m ∧ RD m ∧ (0 ≤ mi m 86 45 ∧ mi m 86 45 ≤ 10) ∧ ∀ b j, 0 ≤ b → b < mi m 86 1 → 0 ≤ j → j < mi m 91 b.toNat → LK m b ((12 * b) + j)
theorem RI.s {m : AM} (h : RI m) : St m := h.1.1.1
theorem RI.i {m : AM} (h : RI m) : IM m := h.1.1.2.1
theorem RI.of {m N : AM} (h : RI m) (hs : SameP m N) : RI N := ⟨h.1.of hs, h.2.1.of hs, by rw [hs.mi 86 45]; exact h.2.2.1, fun b j h0 h1 h2 h3 => hs.LK (h.2.2.2 b j h0 (by rw [← hs.mi 86 1]; exact h1) h2 (by rw [← hs.mi 91]; exact h3))⟩
theorem RI.run {m : AM} (h : RI m) {f n : Int} (hn0 : 0 ≤ n) (hn : n ≤ 200) : RI (roM m f n) := by
  have k := roM_keep (f := f) h.1 (fun k a b => h.2.1.2.2 k (by omega) b) h.2.1.1 h.2.1.2.1 hn0 hn h.2.2.1 h.2.2.2
  exact ⟨k.1, k.2.1, by rw [k.2.2.cell (by decide) (by decide)]; exact h.2.2.1, fun b j h0 h1 h2 h3 => k.2.2.fr.prog (h.2.2.2 b j h0 (by rw [← k.2.2.cell (by decide) (by decide)]; exact h1) h2 (by rw [← k.2.2.cell (by decide) (by omega)]; exact h3))⟩
/-- rows and numbers on which a run of the reference stands -/
def riL : List Nat := [106, 107, 108, 109, 110, 111, 112, 114, 88, 89, 91, 92, 93, 94, 95, 96, 97, 98, 99]
def riK : List Nat := [1, 35, 36, 37, 38, 39, 40, 45]
theorem RI.ext {m N : AM} (h : RI m) (hS : St N) (hI : IM N) (h1 : ∀ o ∈ riL, ∀ j : Nat, mi N o j = mi m o j) (h2 : ∀ k ∈ riK, mi N 86 k = mi m 86 k) : RI N := by
  obtain ⟨⟨⟨a, b', c, d, e, f, g, i, w⟩, r, t⟩, ⟨u, v, x⟩, y, z⟩ := h
  have hF : Fr m N := fun p hp j => h1 p ((by decide : ∀ p ∈ ([88, 91, 92, 93, 94, 95, 96, 97, 98, 99] : List Nat), p ∈ riL) p hp) j
  refine ⟨⟨⟨hS, hI, fun j => ?_, fun j => ?_, fun j => ?_, fun j => ?_, ?_, ?_, fun j => ?_⟩, fun j => ?_, fun j => ?_⟩, ⟨fun j => ?_, fun j => ?_, fun k k1 k2 => ?_⟩, ?_, fun b j h0 hb hj hj2 => hF.prog (z b j h0 ?_ hj ?_)⟩
  · rw [h1 110 (by decide)]; exact c j
  · rw [h1 106 (by decide)]; exact d j
  · rw [h1 109 (by decide)]; exact e j
  · rw [h1 114 (by decide)]; exact f j
  · rw [h2 39 (by decide)]; exact g
  · rw [h2 40 (by decide)]; exact i
  · rw [h1 89 (by decide)]; exact w j
  · rw [h1 107 (by decide)]; exact r j
  · rw [h1 108 (by decide)]; exact t j
  · rw [h1 111 (by decide)]; exact u j
  · rw [h1 112 (by decide)]; exact v j
  · have hk : k = 35 ∨ k = 36 ∨ k = 37 ∨ k = 38 := by omega
    rcases hk with rfl | rfl | rfl | rfl
    · rw [h2 35 (by decide)]; exact x 35 k1 k2
    · rw [h2 36 (by decide)]; exact x 36 k1 k2
    · rw [h2 37 (by decide)]; exact x 37 k1 k2
    · rw [h2 38 (by decide)]; exact x 38 k1 k2
  · rw [h2 45 (by decide)]; exact y
  · rw [← h2 1 (by decide)]; exact hb
  · rw [← h1 91 (by decide)]; exact hj2
theorem IM.cop {m : AM} (h : IM m) {o1 : Nat} (o0 : Nat) (e lo hi : Int) (hA : ∀ q ∈ imA, q.1 = o1 → q.2.1 = lo ∧ q.2.2 = hi) (hS : ∀ q ∈ imS, q.1 ≠ o1) (hv : ∀ j : Nat, lo ≤ mi m o0 j ∧ mi m o0 j ≤ hi) (h3 : ¬ 139 = o1) (h4 : ¬ 86 = o1) (h5 : ∀ j : Nat, j < 6 → ¬ 68 + 3 * j = o1) (h6 : ¬ 0 = o1) : IM (cpr m o1 o0 e) := by
  have n : ∀ p, p ≠ o1 → ∀ j, mi (cpr m o1 o0 e) p j = mi m p j := fun p hp j => by rw [mi_cpr, if_neg (fun q => hp q.1)]
  refine ⟨fun q hq => ?_, fun q hq j => ?_, fun j hj => ?_⟩
  · rw [n q.1 (hS q hq)]
    exact h.1 q hq
  · by_cases e1 : q.1 = o1
    · rw [mi_cpr]
      split
      · have g := hA q hq e1
        rw [g.1, g.2]
        exact hv j
      · exact h.2.1 q hq j
    · rw [n q.1 e1]
      exact h.2.1 q hq j
  · rw [n 139 h3, n 86 h4, n (68 + 3 * j) (h5 j hj), n 0 h6]
    exact h.2.2 j hj
theorem IM.cell {m : AM} (h : IM m) {o1 k : Nat} (lo hi : Int) {v : Int} (hA : ∀ q ∈ imA, q.1 = o1 → lo ≤ v ∧ v ≤ hi → q.2.1 = lo ∧ q.2.2 = hi) (hS : ∀ q ∈ imS, q.1 ≠ o1) (hv : lo ≤ v ∧ v ≤ hi) (hw : -2147483648 ≤ v ∧ v < 2147483648) (h3 : ¬ 139 = o1) (h4 : ¬ 86 = o1) (h5 : ∀ j : Nat, j < 6 → ¬ 68 + 3 * j = o1) (h6 : ¬ 0 = o1) : IM (si m o1 k v) := by
  refine ⟨fun q hq => ?_, fun q hq j => ?_, fun j hj => ?_⟩
  · rw [mi_si_ne m v (fun e => hS q hq e.1)]
    exact h.1 q hq
  · by_cases e1 : q.1 = o1
    · by_cases e2 : j = k
      · rw [e1, e2, mi_si_same m o1 k hw.1 hw.2]
        have g := hA q hq e1 hv
        rw [g.1, g.2]
        exact hv
      · rw [mi_si_ne m v (fun q => e2 q.2)]
        exact h.2.1 q hq j
    · rw [mi_si_ne m v (fun q => e1 q.1)]
      exact h.2.1 q hq j
  · rw [mi_si_ne m v (fun e => h3 e.1), mi_si_ne m v (fun e => h4 e.1), mi_si_ne m v (fun e => h5 j hj e.1), mi_si_ne m v (fun e => h6 e.1)]
    exact h.2.2 j hj
/-- a single number of a cell with a range of its own -/
theorem IM.scal {m : AM} (h : IM m) {o1 k : Nat} (lo hi : Int) {v : Int} (hA : ∀ q ∈ imA, q.1 ≠ o1) (hS : ∀ q ∈ imS, q.1 = o1 → q.2.1 = k → q.2.2.1 = lo ∧ q.2.2.2 = hi) (hv : lo ≤ v ∧ v ≤ hi) (hw : -2147483648 ≤ v ∧ v < 2147483648) (h3 : ¬ 139 = o1) (h4 : ¬ (86 = o1 ∧ 1 = k)) (h5 : ∀ j : Nat, j < 6 → ¬ (68 + 3 * j = o1 ∧ 2 = k)) (h6 : ¬ (0 = o1 ∧ 16 = k)) : IM (si m o1 k v) := by
  refine ⟨fun q hq => ?_, fun q hq j => ?_, fun j hj => ?_⟩
  · by_cases e : q.1 = o1 ∧ q.2.1 = k
    · rw [e.1, e.2, mi_si_same m o1 k hw.1 hw.2]
      have g := hS q hq e.1 e.2
      rw [g.1, g.2]
      exact hv
    · rw [mi_si_ne m v e]
      exact h.1 q hq
  · rw [mi_si_ne m v (fun e => hA q hq e.1)]
    exact h.2.1 q hq j
  · rw [mi_si_ne m v (fun e => h3 e.1), mi_si_ne m v h4, mi_si_ne m v (h5 j hj), mi_si_ne m v h6]
    exact h.2.2 j hj
/-- a store to a row on which no run stands -/
theorem RI.cell {m : AM} (h : RI m) {o k : Nat} {v : Int} (hI : IM (si m o k v)) (ho : o ∉ riL) (hk : ¬ (o = 86 ∧ k ∈ riK)) : RI (si m o k v) :=
  h.ext h.s hI (fun p hp j => mi_si_ne m v (fun q => ho (by rw [← q.1]; exact hp))) (fun i hi => mi_si_ne m v (fun q => hk ⟨q.1.symm, by rw [← q.2]; exact hi⟩))
theorem RI.cop {m : AM} (h : RI m) {o1 o0 : Nat} {e : Int} (hI : IM (cpr m o1 o0 e)) (ho : o1 ∉ riL) (hk : o1 ≠ 86) : RI (cpr m o1 o0 e) :=
  h.ext h.s hI (fun p hp j => by rw [mi_cpr, if_neg (fun q => ho (by rw [← q.1]; exact hp))]) (fun i hi => by rw [mi_cpr, if_neg (fun q => hk q.1.symm)])
/-- a number of the reference on which nothing stands that is told here -/
theorem RI.own {m : AM} (h : RI m) {k : Nat} (v : Int) (hk : ∀ q ∈ imS, q.1 = 86 → q.2.1 ≠ k) (hk2 : k ∉ riK) : RI (si m 86 k v) :=
  h.cell (h.i.one (fun q hq e => hk q hq e.1 e.2) (by decide) (by decide) (fun e => hk2 (by rw [← e.2]; decide)) (fun j hj e => absurd e.1 (by omega)) (fun e => absurd e.1 (by decide))) (by decide) (fun e => hk2 e.2)
theorem ct_X12_runOfI {G : QW} {m : AM} {f n : Int} (h : RI m) (hf0 : 0 ≤ f) (hf7 : f ≤ 7) (hn0 : 0 ≤ n) (hn : n ≤ 200) : qM G mX12_runOf 5 0 0 [vR 86, vI f, vI n] m (fun r m' => r = none ∧ SameP (roM m f n) m') :=
  ct_X12_runOf h.1 hf0 hf7 hn0 hn h.2.2.1 h.2.2.2
theorem begin_same {m M : AM} (h : SameP m M) : SameP (FX12_begin m) (FX12_begin M) := by
  obtain ⟨L, rfl⟩ := h.ex
  exact ⟨rfl, rfl, h.2.2⟩
theorem roL_same (f : Int) : ∀ (c : Nat) (N M : AM), SameP N M → SameP (roL f c N) (roL f c M) := by
  intro c
  induction c with
  | zero => intro N M h; exact h
  | succ c ih =>
    intro N M h
    have g : SameP (roT f N) (roT f M) := taM_same (feL_same f 3 0 N M h)
    refine ih _ _ ?_
    rw [g.mi 86 39]
    exact g.si _ _ _
theorem roM_same {m M : AM} (h : SameP m M) (f n : Int) : SameP (roM m f n) (roM M f n) := roL_same f _ _ _ ((begin_same h).si _ _ _)
theorem SameP.cop {m M : AM} (h : SameP m M) (o1 o0 : Nat) (e : Int) : SameP (cpr m o1 o0 e) (cpr M o1 o0 e) := by
  obtain ⟨L, rfl⟩ := h.ex
  exact ⟨rfl, rfl, h.2.2⟩
/-- none is told to fail, to stop, to watch -/
def aiM (m : AM) : AM := si (si (si m 86 43 (-1)) 86 46 (-1)) 86 48 (-1)
theorem RI.asIs {m : AM} (h : RI m) : RI (aiM m) := ((h.own (k := 43) (-1) (by decide) (by decide)).own (k := 46) (-1) (by decide) (by decide)).own (k := 48) (-1) (by decide) (by decide)
theorem SameP.asIs {m M : AM} (h : SameP m M) : SameP (aiM m) (aiM M) := ((h.si _ _ _).si _ _ _).si _ _ _

def FX12_asItIs (m : AM) : AM :=
  (si (si (si m 86 43 (-1)) 86 46 (-1)) 86 48 (-1))
set_option maxRecDepth 20000 in
set_option maxHeartbeats 4000000 in
theorem ct_X12_asItIs {G : QW} {m : AM} (hS : St m) (hI : IM m) : qM G mX12_asItIs 0 0 0 [vR 86] m (fun r m' => r = none ∧ m' = FX12_asItIs m) := by
  refine qM.intro okX12_asItIs (Nat.le_of_ble_eq_true rfl) ?_
  refine j_aload_n rfl rfl ?_
  refine j_iconst rfl ?_
  refine j_putI rfl f_X12_303 rfl (hS.lt (by decide)) (hS.k (by decide) (by decide)) ?_
  refine j_aload_n rfl rfl ?_
  refine j_iconst rfl ?_
  refine j_putI rfl f_X12_306 rfl (hS.lt (by decide)) (hS.k (by decide) (by decide)) ?_
  refine j_aload_n rfl rfl ?_
  refine j_iconst rfl ?_
  refine j_putI rfl f_X12_309 rfl (hS.lt (by decide)) (hS.k (by decide) (by decide)) ?_
  refine j_vret rfl rfl ?_ rfl (Nat.le_refl _)
  unfold FX12_asItIs
  exact ⟨rfl, rfl⟩

theorem ct_X12_asIs {G : QW} {m : AM} (h : RI m) : qM G mX12_asItIs 0 0 0 [vR 86] m (fun r m' => r = none ∧ m' = aiM m) := ct_X12_asItIs h.s h.i


/-! new int[n][k] -/
section QN2
variable {G : QW} {md : MD} {R : Room} {F : QFin} {pc : Nat} {ls : List (Nat × Vl)} {st : List Vl} {m : AM} {cc cs : Nat}
/-- a row of n new rows of k ints -/
def mnaM (m : AM) (n k : Nat) : AM := (fun o j => if mz m ≤ o then 0 else m.1 o j, fun o j => if mz m ≤ o then 0 else m.2.1 o j, fun o j => if o = mz m then (if j < n then some (mz m + 1 + j) else none) else if mz m < o then none else mr m o j, fun o => if o = mz m then 20 else if mz m < o then 13 else mk m o, fun o => if o = mz m then n else if mz m < o then k else mn m o, mz m + 1 + n)
theorem mna_mi {m : AM} {n k o j : Nat} : mi (mnaM m n k) o j = if mz m ≤ o then 0 else mi m o j := by
  show (zi (if mz m ≤ o then 0 else m.1 o j)).toInt = _
  split
  · rfl
  · rfl
theorem mna_ml {m : AM} {n k o j : Nat} : ml (mnaM m n k) o j = if mz m ≤ o then 0 else ml m o j := by
  show (zl (if mz m ≤ o then 0 else m.2.1 o j)).toInt = _
  split
  · rfl
  · rfl
theorem mna_mr {m : AM} {n k o j : Nat} : mr (mnaM m n k) o j = if o = mz m then (if j < n then some (mz m + 1 + j) else none) else if mz m < o then none else mr m o j := rfl
theorem mna_mk {m : AM} {n k o : Nat} : mk (mnaM m n k) o = if o = mz m then 20 else if mz m < o then 13 else mk m o := rfl
theorem mna_mn {m : AM} {n k o : Nat} : mn (mnaM m n k) o = if o = mz m then n else if mz m < o then k else mn m o := rfl
theorem mna_outer (c : ClassId) (N h0 : Nat) : ∀ i : Nat, Jvm.Free.Multi.outerC c N h0 i = arrV c N (fun j => va_rf (if j < i then some (h0 + 1 + j) else none))
  | 0 => by
    show ({ cls := c, slots := Array.replicate N .null, vm := .none } : Cell) = _
    rw [arrV_new]
    exact congrArg (arrV c N) (funext fun j => by simp [va_rf])
  | i + 1 => by
    show (Jvm.Free.Multi.outerC c N h0 i).setSlot i (.ref (h0 + 1 + i)) = _
    rw [mna_outer c N h0 i, arrV_store]
    refine congrArg (arrV c N) (funext fun j => ?_)
    by_cases e : j = i
    · subst e
      simp [updV, va_rf]
    · by_cases h : j < i
      · simp [updV, e, h, Nat.lt_succ_of_lt h]
      · simp [updV, e, h, show ¬ j < i + 1 by omega]
theorem j_mna {i n k : Nat} (hd : qlk md.c pc = some (.multianewarray i 2, 4)) (hw : Cond.classLink md.y.cls i "[[I" ∈ tb) (hw2 : Cond.arrayClass .int ∈ tb) (hn : n ≤ 1000) (hk : k ≤ 1000) (hc : cc + (1 + n) ≤ R.cells) (hs : cs + (n + n * k) ≤ R.slots)
    (kk : qJ G md R F (pc + 4) ls (vR (mz m) :: st) (mnaM m n k) (cc + 1 + n) (cs + n + n * k)) : qJ G md R F pc ls (vI (k : Int) :: vI (n : Int) :: st) m cc cs := by
  intro p e s mm args below meth c C H locs lsc hH hz hS hl T hT X
  have en : (zi (n : Int)).toNatClampNeg = n := by rw [zi_nat (by omega) (by omega)]; exact Int.toNat_natCast n
  have ek : (zi (k : Int)).toNatClampNeg = k := by rw [zi_nat (by omega) (by omega)]; exact Int.toNat_natCast k
  have nn : ¬ zi (n : Int) < 0 := fun h => by have := (zi_lt0 (by omega) (by omega)).mp h; omega
  have nk : ¬ zi (k : Int) < 0 := fun h => by have := (zi_lt0 (by omega) (by omega)).mp h; omega
  obtain ⟨vm₁, cA, comp, -, fA, fC, hO, -, X', step⟩ := X.multianewarray2F (own := md.y.cls) (index := i) (ty := .int) C.x C.o (C.t _ hw) C.T.2.2.2.2.2.2 (C.t _ hw2) (g := F0 mm pc lsc (.int (zi k) :: .int (zi n) :: st.map (qv G))) rfl (by rw [C.b]; exact C.d.at hd) (n := zi n) (k := zi k) rfl nn nk (by rw [en]; omega) (by rw [ek]; show k * 4 ≤ _; omega) (by rw [ek]; omega) rfl rfl (by rw [en]; exact hc) (by rw [en, ek]; exact hs)
  rw [en, ek] at X' step
  generalize hF : Jvm.Free.Multi.fill (T.setVm vm₁) cA comp n k (defaultValue .int) n = U at X' step
  have hTh : (T.setVm vm₁).heap = H := hT
  obtain ⟨f1, f2, -, -⟩ := Jvm.Free.Multi.fill_facts (T.setVm vm₁) cA comp n k (defaultValue .int) n
  rw [hF, hTh] at f1 f2
  have hold : ∀ x : Nat, x < H.size → U.heap[x]? = H[x]? := fun x hx => by
    have := Jvm.Free.Multi.fill_old (T.setVm vm₁) cA comp n k (defaultValue .int) (a := x) (by rw [hTh]; exact hx) n
    rw [hF, hTh] at this
    exact this
  have hrow : ∀ j : Nat, j < n → U.heap[H.size + 1 + j]? = some (Jvm.Free.Multi.innerC comp k (defaultValue .int)) := fun j hj => by
    have := Jvm.Free.Multi.fill_inner (T.setVm vm₁) cA comp n k (defaultValue .int) n j hj
    rw [hF, hTh] at this
    exact this
  rw [mna_outer] at f2
  have e7 : cA = G.tA 7 := by
    have a2 : s.vm.findClass _ = some (G.tA 7) := (C.T.1.2 7 _ rfl).2
    exact Option.some.inj (fA.symm.trans a2)
  have e0 : comp = G.tA 0 := by
    have a2 : s.vm.findClass _ = some (G.tA 0) := (C.T.1.2 0 _ rfl).2
    exact Option.some.inj (fC.symm.trans a2)
  have hQ : QH G (mnaM m n k) U.heap := by
    have hsz := hH.1
    refine ⟨by rw [f1]; show H.size + 1 + n = G.HB.size + (mz m + 1 + n); omega, fun q w hw3 => ?_, fun q hq => (hold q (by omega)).trans (hH.2.2 q hq)⟩
    obtain ⟨hlt, rfl⟩ := qws_inv hw3
    have hlt2 : q < mz m + 1 + n := hlt
    by_cases c1 : q < mz m
    · have ec : cellE G (mnaM m n k) q = cellE G m q := cellE_of (fun j => by rw [mna_mi, if_neg (by omega)]) (fun j => by rw [mna_ml, if_neg (by omega)]) (fun j => by rw [mna_mr, if_neg (by omega), if_neg (by omega)]) (by rw [mna_mk, if_neg (by omega), if_neg (by omega)]) (by rw [mna_mn, if_neg (by omega), if_neg (by omega)])
      rw [ec]
      exact (hH.2.1 _ _ (qws_at G c1)).kept (hold _ (by show G.HB.size + q < H.size; omega))
    · by_cases c2 : q = mz m
      · subst c2
        have k1 : mk (mnaM m n k) (mz m) = 20 := if_pos rfl
        have n1 : mn (mnaM m n k) (mz m) = n := if_pos rfl
        have r1 : ∀ j, mr (mnaM m n k) (mz m) j = if j < n then some (mz m + 1 + j) else none := fun j => if_pos rfl
        have ec : cellE G (mnaM m n k) (mz m) = .inl (G.tA 7, n, .inr (.inr (.inr (.inr (fun i => if i < n then some (H.size + 1 + i) else none))))) := by
          unfold cellE aE
          rw [k1, n1, if_neg (by omega), if_neg (by omega), if_neg (by omega)]
          refine congrArg (fun f : Nat → Option Nat => (Sum.inl (G.tA 7, n, Sum.inr (Sum.inr (Sum.inr (Sum.inr f)))) : va_E)) (funext fun j => ?_)
          rw [r1]
          by_cases hj : j < n
          · rw [if_pos hj, if_pos hj]
            show some (G.HB.size + (mz m + 1 + j)) = _
            rw [hsz]
            congr 1
            omega
          · rw [if_neg hj, if_neg hj]
            rfl
        rw [ec]
        show U.heap[G.HB.size + mz m]? = some (vp_cell _ _)
        rw [← hsz, vp_cell_q, f2, e7]
      · have k1 : mk (mnaM m n k) q = 13 := by rw [mna_mk, if_neg c2, if_pos (by omega)]
        have n1 : mn (mnaM m n k) q = k := by rw [mna_mn, if_neg c2, if_pos (by omega)]
        have ec : cellE G (mnaM m n k) q = .inl (G.tA 0, k, .inl (fun _ => 0)) := by
          unfold cellE aE
          rw [k1, n1, if_neg (by omega), if_neg (by omega), if_pos (by omega)]
          refine congrArg (fun f : Nat → Int32 => (Sum.inl (G.tA 0, k, Sum.inl f) : va_E)) (funext fun j => ?_)
          rw [mna_mi, if_pos (by omega)]
          rfl
        rw [ec]
        have hj := hrow (q - mz m - 1) (by omega)
        rw [show H.size + 1 + (q - mz m - 1) = G.HB.size + q by omega] at hj
        show U.heap[G.HB.size + q]? = some (vp_cell _ _)
        rw [hj, e0, vp_cell_i]
        show some ({ cls := G.tA 0, slots := Array.replicate k (.int 0), vm := .none } : Cell) = _
        rw [arrV_new]
  obtain ⟨t, a1, b1⟩ := kk p e s mm args below meth c C U.heap locs lsc hQ (by rw [f1]; omega) ⟨by rw [f1]; have := hS.1; omega, fun x h1 h2 => (hold x (Nat.lt_of_lt_of_le h1 hS.1)).trans (hS.2.1 x h1 h2), hS.2.2⟩ hl U rfl X'
  refine ⟨t, step t ?_, b1⟩
  have eT : T.heap.size = H.size := by rw [hT]
  rw [eT]
  have eq : H.size = G.HB.size + mz m := hH.1
  rw [eq]
  exact a1
end QN2

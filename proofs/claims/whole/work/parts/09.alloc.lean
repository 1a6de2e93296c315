section QN
variable {G : QW} {md : MD} {R : Room} {F : QFin} {pc : Nat} {ls : List (Nat × Vl)} {st : List Vl} {m : AM} {cc cs : Nat}
theorem qws_new (m : AM) (kd len : Nat) : qws G m ++ [(G.HB.size + mz m, cellE G (am_new m kd len) (mz m))] = qws G (am_new m kd len) := by
  have hz : mz (am_new m kd len) = mz m + 1 := rfl
  unfold qws
  rw [hz, List.range_succ, List.map_append]
  congr 1
  apply List.map_congr_left
  intro n hn
  have hlt : n < mz m := List.mem_range.mp hn
  have hne : ¬ n = mz m := by omega
  congr 1
  exact (cellE_of (m := m) (m' := am_new m kd len) (fun j => congrArg (fun x => (zi x).toInt) (if_neg hne)) (fun j => congrArg (fun x => (zl x).toInt) (if_neg hne)) (fun j => if_neg hne) (if_neg hne) (if_neg hne)).symm
theorem qnew {kd len q : Nat} {ev : va_E} {pc' cs' : Nat} {st' : List Vl} {p : Program} {e : Env} {s : State} {mm : MethodId} {args : Array Value} {below : List Frame} {meth : Method} {c : Code} {H H1 : Heap} {locs : List Loc} {lsc : Array Slot}
    (k : qJ G md R F pc' ls (vR (mz m) :: st') (am_new m kd len) (cc + 1) cs') (C : qC G md p s mm args meth c) (hH : QH G m H) (hz : H.size = s.heap.size + cc) (hS : va_S (fun q => G.HB.size ≤ q) s.heap H locs) (hl : lv_has lsc md.n (lmap G ls))
    (hE : ev = cellE G (am_new m kd len) (mz m)) (hP1 : va_P G.D nbC (qws G m ++ [(q, ev)]) H1) (hD1 : va_D (fun q => G.HB.size ≤ q) (qws G m ++ [(q, ev)])) (hS1 : va_S (fun q => G.HB.size ≤ q) H H1 locs) : W p G.l e R s mm args below meth c H1 locs (cc + 1) cs' (F below args s) (F0 mm pc' lsc (.ref q :: st'.map (qv G))) := by
  intro T hT X
  have h1 := X.heapSize
  have h2 := hS1.1
  rw [hT] at h1
  have h3 := hH.1
  have hq : (qws G m ++ [(q, ev)])[mz m]? = some (q, ev) := by
    rw [List.getElem?_append_right (by rw [qws_len]; exact Nat.le_refl _), qws_len, Nat.sub_self]
    rfl
  have h4 : q < H1.size := (hP1 _ _ hq).lt
  have h5 : G.HB.size ≤ q := hD1.2 _ _ hq
  have h6 : G.HB.size + mz m ≤ q := by
    refine Nat.le_of_not_lt fun h => ?_
    have hn : q - G.HB.size < mz m := by omega
    have e1 : (qws G m ++ [(q, ev)])[q - G.HB.size]? = some (G.HB.size + (q - G.HB.size), cellE G m (q - G.HB.size)) := by
      rw [List.getElem?_append_left (by rw [qws_len]; exact hn)]
      exact qws_at G hn
    have e2 := hD1.1 _ _ _ _ e1 hq (by show G.HB.size + (q - G.HB.size) = q; omega)
    omega
  have h7 : q = G.HB.size + mz m := by omega
  subst h7
  subst hE
  rw [qws_new] at hP1
  have h8 : mz (am_new m kd len) = mz m + 1 := rfl
  refine k p e s mm args below meth c C H1 locs lsc ⟨by omega, hP1, fun q hq => ?_⟩ (by omega) ⟨by omega, fun q g1 g2 => ?_, hS1.2.2⟩ hl T hT X
  · rw [hS1.2.1 q (by omega) (by omega)]
    exact hH.2.2 q hq
  · rw [hS1.2.1 q (by omega) g2]
    exact hS.2.1 q g1 g2
theorem qA {H : Heap} (hH : QH G m H) : ∀ q : Nat, H.size ≤ q → G.HB.size ≤ q := fun q h => by have := hH.1; omega
theorem j_newI {n : Nat} (hd : qlk md.c pc = some (.newarray .int, 2)) (hw : Cond.arrayClass .int ∈ tb) (hn : n ≤ 100000) (hc : cc + 1 ≤ R.cells) (hs : cs + n ≤ R.slots)
    (kk : qJ G md R F (pc + 2) ls (vR (mz m) :: st) (am_new m 13 n) (cc + 1) (cs + n)) : qJ G md R F pc ls (vI (n : Int) :: st) m cc cs := by
  intro p e s mm args below meth c C H locs lsc hH hz hS hl
  have hi : (zi (n : Int)).toNatClampNeg = n := by rw [zi_nat (by omega) (by omega)]; exact Int.toNat_natCast n
  refine va_newa (atype := .int) (ty := .int) (a0 := (n, .inl (fun _ => 0))) C.x C.b (C.t _ hw) rfl C.T.1 hH.2.1 (qws_D G m) (qS0 hS) (qA hH) (fun _ => rfl) (fun h => by have := (zi_lt0 (by omega) (by omega)).mp h; omega) hi (by show n * 4 ≤ _; omega) hc hs (C.d.at hd) (fun q cA H1 hK1 hP1 hD1 hS1 => ?_)
  have e1 : cA = G.tA 0 := by
    have a1 : s.vm.findClass _ = some cA := (hK1.2 8 _ rfl).2
    have a2 : s.vm.findClass _ = some (G.tA 0) := (C.T.1.2 0 _ rfl).2
    exact Option.some.inj (a1.symm.trans a2)
  refine qnew kk C hH hz hS hl ?_ hP1 hD1 hS1
  unfold cellE aE
  simp [am_new, mk, mn, mi, mz, e1]
  rfl
theorem j_newZ {n : Nat} (hd : qlk md.c pc = some (.newarray .boolean, 2)) (hw : Cond.arrayClass .boolean ∈ tb) (hn : n ≤ 100000) (hc : cc + 1 ≤ R.cells) (hs : cs + n ≤ R.slots)
    (kk : qJ G md R F (pc + 2) ls (vR (mz m) :: st) (am_new m 16 n) (cc + 1) (cs + n)) : qJ G md R F pc ls (vI (n : Int) :: st) m cc cs := by
  intro p e s mm args below meth c C H locs lsc hH hz hS hl
  have hi : (zi (n : Int)).toNatClampNeg = n := by rw [zi_nat (by omega) (by omega)]; exact Int.toNat_natCast n
  refine va_newa (atype := .boolean) (ty := .boolean) (a0 := (n, .inl (fun _ => 0))) C.x C.b (C.t _ hw) rfl C.T.1 hH.2.1 (qws_D G m) (qS0 hS) (qA hH) (fun _ => rfl) (fun h => by have := (zi_lt0 (by omega) (by omega)).mp h; omega) hi (by show n * 1 ≤ _; omega) hc hs (C.d.at hd) (fun q cA H1 hK1 hP1 hD1 hS1 => ?_)
  have e1 : cA = G.tA 3 := by
    have a1 : s.vm.findClass _ = some cA := (hK1.2 8 _ rfl).2
    have a2 : s.vm.findClass _ = some (G.tA 3) := (C.T.1.2 3 _ rfl).2
    exact Option.some.inj (a1.symm.trans a2)
  refine qnew kk C hH hz hS hl ?_ hP1 hD1 hS1
  unfold cellE aE
  simp [am_new, mk, mn, mi, mz, e1]
  rfl
theorem j_newB {n : Nat} (hd : qlk md.c pc = some (.newarray .byte, 2)) (hw : Cond.arrayClass .byte ∈ tb) (hn : n ≤ 100000) (hc : cc + 1 ≤ R.cells) (hs : cs + n ≤ R.slots)
    (kk : qJ G md R F (pc + 2) ls (vR (mz m) :: st) (am_new m 15 n) (cc + 1) (cs + n)) : qJ G md R F pc ls (vI (n : Int) :: st) m cc cs := by
  intro p e s mm args below meth c C H locs lsc hH hz hS hl
  have hi : (zi (n : Int)).toNatClampNeg = n := by rw [zi_nat (by omega) (by omega)]; exact Int.toNat_natCast n
  refine va_newa (atype := .byte) (ty := .byte) (a0 := (n, .inl (fun _ => 0))) C.x C.b (C.t _ hw) rfl C.T.1 hH.2.1 (qws_D G m) (qS0 hS) (qA hH) (fun _ => rfl) (fun h => by have := (zi_lt0 (by omega) (by omega)).mp h; omega) hi (by show n * 1 ≤ _; omega) hc hs (C.d.at hd) (fun q cA H1 hK1 hP1 hD1 hS1 => ?_)
  have e1 : cA = G.tA 2 := by
    have a1 : s.vm.findClass _ = some cA := (hK1.2 8 _ rfl).2
    have a2 : s.vm.findClass _ = some (G.tA 2) := (C.T.1.2 2 _ rfl).2
    exact Option.some.inj (a1.symm.trans a2)
  refine qnew kk C hH hz hS hl ?_ hP1 hD1 hS1
  unfold cellE aE
  simp [am_new, mk, mn, mi, mz, e1]
  rfl
theorem j_newL {n : Nat} (hd : qlk md.c pc = some (.newarray .long, 2)) (hw : Cond.arrayClass .long ∈ tb) (hn : n ≤ 100000) (hc : cc + 1 ≤ R.cells) (hs : cs + n ≤ R.slots)
    (kk : qJ G md R F (pc + 2) ls (vR (mz m) :: st) (am_new m 14 n) (cc + 1) (cs + n)) : qJ G md R F pc ls (vI (n : Int) :: st) m cc cs := by
  intro p e s mm args below meth c C H locs lsc hH hz hS hl
  have hi : (zi (n : Int)).toNatClampNeg = n := by rw [zi_nat (by omega) (by omega)]; exact Int.toNat_natCast n
  refine va_newa (atype := .long) (ty := .long) (a0 := (n, .inr (.inl (fun _ => 0)))) C.x C.b (C.t _ hw) rfl C.T.1 hH.2.1 (qws_D G m) (qS0 hS) (qA hH) (fun _ => rfl) (fun h => by have := (zi_lt0 (by omega) (by omega)).mp h; omega) hi (by show n * 8 ≤ _; omega) hc hs (C.d.at hd) (fun q cA H1 hK1 hP1 hD1 hS1 => ?_)
  have e1 : cA = G.tA 1 := by
    have a1 : s.vm.findClass _ = some cA := (hK1.2 8 _ rfl).2
    have a2 : s.vm.findClass _ = some (G.tA 1) := (C.T.1.2 1 _ rfl).2
    exact Option.some.inj (a1.symm.trans a2)
  refine qnew kk C hH hz hS hl ?_ hP1 hD1 hS1
  unfold cellE aE
  simp [am_new, mk, mn, ml, mz, e1]
  rfl
theorem j_newQ {n i k : Nat} {C0 : String} (hd : qlk md.c pc = some (.anewarray i, 3)) (hw : Cond.classLink md.y.cls i C0 ∈ tb) (he : qEl k C0) (hn : n ≤ 100000) (hc : cc + 1 ≤ R.cells) (hs : cs + n ≤ R.slots)
    (kk : qJ G md R F (pc + 3) ls (vR (mz m) :: st) (am_new m k n) (cc + 1) (cs + n)) : qJ G md R F pc ls (vI (n : Int) :: st) m cc cs := by
  intro p e s mm args below meth c C H locs lsc hH hz hS hl
  have hi : (zi (n : Int)).toNatClampNeg = n := by rw [zi_nat (by omega) (by omega)]; exact Int.toNat_natCast n
  have hov : va_AO C0 s := by
    rcases he with ⟨-, rfl⟩ | ⟨-, rfl⟩ | ⟨-, rfl⟩
    · exact C.T.2.2.2.1
    · exact C.T.2.2.2.2.1
    · exact C.T.2.2.2.2.2.1
  refine va_newq C.x C.b C.o (C.t _ hw) hov C.T.1 hH.2.1 (qws_D G m) (qS0 hS) (qA hH) (fun h => by have := (zi_lt0 (by omega) (by omega)).mp h; omega) hi (by omega) hc hs (C.d.at hd) (fun q cA H1 hK1 hP1 hD1 hS1 => ?_)
  have e1 : cA = G.tA (k - 13) := by
    obtain ⟨-, -, -, -, -, a1⟩ := (hK1.2 8 _ rfl).2
    obtain ⟨-, -, -, -, -, a2⟩ := (C.T.1.2 _ _ he.ty).2
    exact Option.some.inj (a1.symm.trans a2)
  refine qnew kk C hH hz hS hl ?_ hP1 hD1 hS1
  have hk := he.ge
  have e2 : mk (am_new m k n) (mz m) = k := if_pos rfl
  unfold cellE aE
  rw [e2, if_neg (by omega), if_neg (by omega), if_neg (by omega), e1]
  simp [am_new, mn, mr, mz]
theorem j_new {i ci : Nat} {q0 : vw_C} {ty0 : Nat → FieldType} (hd : qlk md.c pc = some (.new i, 3)) (hq : nbC[ci]? = some q0) (hci : ci < 13) (hN : nF ci = q0.2.2) (hin : ∀ w ∈ u_ws q0.1 q0.2.1 q0.2.2, w ∈ tb) (hty : ∀ k, k < q0.2.2 → parseFieldDescriptor (q0.2.1 k).2.2.1 = some (ty0 k)) (hdf : ∀ k, k < q0.2.2 → defaultValue (ty0 k) = if fr ci k = true then .null else .int 0)
    (h1 : Cond.classLink md.y.cls i q0.1 ∈ tb) (h2 : Cond.instantiable q0.1 q0.2.2 ∈ tb) (h3 : Cond.initialized q0.1 ∈ tb) (hc : cc + 1 ≤ R.cells) (hs : cs + q0.2.2 ≤ R.slots)
    (kk : qJ G md R F (pc + 3) ls (vR (mz m) :: st) (am_new m ci 0) (cc + 1) (cs + q0.2.2)) : qJ G md R F pc ls st m cc cs := by
  intro p e s mm args below meth c C H locs lsc hH hz hS hl
  have e2 : mk (am_new m ci 0) (mz m) = ci := if_pos rfl
  have hfv : ∀ j, fvalE G (am_new m ci 0) (mz m) j = if fr ci j = true then .null else .int 0 := by
    intro j
    unfold fvalE
    rw [e2]
    have a1 : mr (am_new m ci 0) (mz m) j = none := if_pos rfl
    have a2 : mi (am_new m ci 0) (mz m) j = 0 := by
      show (zi (if mz m = mz m then 0 else _)).toInt = 0
      rw [if_pos rfl]
      rfl
    rw [a1, a2]
    rfl
  refine va_new (D := G.D) (ci := ci) (C := q0.1) (T := q0.2.1) (N := q0.2.2) (fs := (List.range (nF ci)).map (fvalE G (am_new m ci 0) (mz m))) C.x C.b C.t hin ty0 hty C.o (C.t _ h1) (C.t _ h2) (C.t _ h3) C.T.1 hH.2.1 (qws_D G m) (qS0 hS) (qA hH) hq (fun j hj => ?_) hc hs (C.d.at hd) (fun q H1 hP1 hD1 hS1 => ?_)
  · rw [hdf j hj]
    unfold vp_V
    rw [List.getD_eq_getElem?_getD, fv_at (by rw [hN]; exact hj), hfv]
    rfl
  · refine qnew kk C hH hz hS hl ?_ hP1 hD1 hS1
    exact (cellE_obj e2 hci).symm
/-! System.arraycopy -/
def cpi (m : AM) (o1 o0 sp dp n : Nat) : AM := (fun p j => if p = o1 ∧ dp ≤ j ∧ j < dp + n then m.1 o0 (sp + (j - dp)) else m.1 p j, m.2)
def cpl (m : AM) (o1 o0 sp dp n : Nat) : AM := (m.1, fun p j => if p = o1 ∧ dp ≤ j ∧ j < dp + n then m.2.1 o0 (sp + (j - dp)) else m.2.1 p j, m.2.2)
theorem mi_cpi (m : AM) (o1 o0 sp dp n p j : Nat) : mi (cpi m o1 o0 sp dp n) p j = if p = o1 ∧ dp ≤ j ∧ j < dp + n then mi m o0 (sp + (j - dp)) else mi m p j := by
  show (zi (if p = o1 ∧ dp ≤ j ∧ j < dp + n then m.1 o0 (sp + (j - dp)) else m.1 p j)).toInt = _
  by_cases h : p = o1 ∧ dp ≤ j ∧ j < dp + n
  · rw [if_pos h, if_pos h]
    rfl
  · rw [if_neg h, if_neg h]
    rfl
theorem ml_cpl (m : AM) (o1 o0 sp dp n p j : Nat) : ml (cpl m o1 o0 sp dp n) p j = if p = o1 ∧ dp ≤ j ∧ j < dp + n then ml m o0 (sp + (j - dp)) else ml m p j := by
  show (zl (if p = o1 ∧ dp ≤ j ∧ j < dp + n then m.2.1 o0 (sp + (j - dp)) else m.2.1 p j)).toInt = _
  by_cases h : p = o1 ∧ dp ≤ j ∧ j < dp + n
  · rw [if_pos h, if_pos h]
    rfl
  · rw [if_neg h, if_neg h]
    rfl
theorem qset_ci (m : AM) {o1 o0 sp dp n k : Nat} (hk : mk m o1 = k) (h1 : k = 13 ∨ k = 15 ∨ k = 16) : (qws G m).set o1 (G.HB.size + o1, .inl (G.tA (k - 13), mn m o1, .inl (va_cpy (fun j => zi (mi m o0 j)) (fun j => zi (mi m o1 j)) sp dp n))) = qws G (cpi m o1 o0 sp dp n) := by
  refine qws_set (m := m) (m' := cpi m o1 o0 sp dp n) rfl (fun x hx => cellE_of (fun j => congrArg (fun y => (zi y).toInt) (if_neg (fun q => hx q.1))) (fun _ => rfl) (fun _ => rfl) rfl rfl) ?_
  have e : va_cpy (fun j => zi (mi m o0 j)) (fun j => zi (mi m o1 j)) sp dp n = fun j => zi (mi (cpi m o1 o0 sp dp n) o1 j) := by
    funext j
    unfold va_cpy
    rw [mi_cpi]
    by_cases h : dp ≤ j ∧ j < dp + n
    · rw [if_pos h, if_pos ⟨rfl, h⟩]
    · rw [if_neg h, if_neg (fun q => h q.2)]
  rw [e]
  have e2 : mk (cpi m o1 o0 sp dp n) o1 = k := hk
  unfold cellE aE
  rw [e2]
  rcases h1 with rfl | rfl | rfl <;> rfl
theorem qset_cl (m : AM) {o1 o0 sp dp n : Nat} (hk : mk m o1 = 14) : (qws G m).set o1 (G.HB.size + o1, .inl (G.tA 1, mn m o1, .inr (.inl (va_cpy (fun j => zl (ml m o0 j)) (fun j => zl (ml m o1 j)) sp dp n)))) = qws G (cpl m o1 o0 sp dp n) := by
  refine qws_set (m := m) (m' := cpl m o1 o0 sp dp n) rfl (fun x hx => cellE_of (fun _ => rfl) (fun j => congrArg (fun y => (zl y).toInt) (if_neg (fun q => hx q.1))) (fun _ => rfl) rfl rfl) ?_
  have e : va_cpy (fun j => zl (ml m o0 j)) (fun j => zl (ml m o1 j)) sp dp n = fun j => zl (ml (cpl m o1 o0 sp dp n) o1 j) := by
    funext j
    unfold va_cpy
    rw [ml_cpl]
    by_cases h : dp ≤ j ∧ j < dp + n
    · rw [if_pos h, if_pos ⟨rfl, h⟩]
    · rw [if_neg h, if_neg (fun q => h q.2)]
  rw [e]
  have e2 : mk (cpl m o1 o0 sp dp n) o1 = 14 := hk
  unfold cellE aE
  rw [e2]
  rfl
def qCpy (own : String) (i : Nat) : Prop := Cond.methodLink own i arraycopyName ∈ tb ∧ Cond.native arraycopyName ∈ tb ∧ Cond.static arraycopyName ∈ tb ∧ Cond.initialized "java/lang/System" ∈ tb
theorem zi_nneg {a : Nat} (h : a < 2147483648) : ¬ zi (a : Int) < 0 := fun q => by have := (zi_lt0 (by omega) (by omega)).mp q; omega
theorem zi_natc {a : Nat} (h : a < 2147483648) : (zi (a : Int)).toNatClampNeg = a := by rw [zi_nat (by omega) (by omega)]; exact Int.toNat_natCast a
theorem j_copyI {i o0 o1 sp dp n : Nat} (hd : qlk md.c pc = some (.invokestatic i, 3)) (hw : qCpy md.y.cls i) (ho0 : o0 < mz m) (ho1 : o1 < mz m) (hk0 : mk m o0 = 13) (hk1 : mk m o1 = 13) (h4 : sp + n ≤ mn m o0) (h5 : dp + n ≤ mn m o1) (b1 : sp < 2147483648) (b2 : dp < 2147483648) (b3 : n < 2147483648)
    (hR : 1 ≤ R.frames) (hL : (st.map qcat).sum + (nativeFrameWords "java/lang/System" "arraycopy" 5 + 11) ≤ R.locals)
    (kk : qJ G md R F (pc + 3) ls st (cpi m o1 o0 sp dp n) cc cs) : qJ G md R F pc ls (vI (n : Int) :: vI (dp : Int) :: vR o1 :: vI (sp : Int) :: vR o0 :: st) m cc cs := by
  intro p e s mm args below meth c C H locs lsc hH hz hS hl
  refine va_copyi (ty := .int) C.x C.b (by rw [C.n, hl.1]) C.o (C.t _ hw.1) (C.t _ hw.2.1) (C.t _ hw.2.2.1) (C.t _ hw.2.2.2) C.T.1 hH.2.1 (qws_D G m) (qS0 hS) o0 o1 0 0 (arrI_at ho0 hk0 (Or.inl rfl)) (arrI_at ho1 hk1 (Or.inl rfl)) rfl rfl rfl (zi_nneg b1) (zi_nneg b2) (zi_nneg b3) (by rw [zi_natc b1, zi_natc b3]; exact h4) (by rw [zi_natc b2, zi_natc b3]; exact h5) (fun _ _ => rfl) hR (by rw [qcat_sum]; exact hL) (C.d.at hd) (fun H1 locs1 hP1 _ hS1 => ?_)
  rw [zi_natc b1, zi_natc b2, zi_natc b3] at hP1
  exact qgo kk C hH hz hS hl rfl ((qset_ci (G := G) m hk1 (Or.inl rfl)) ▸ hP1) hS1
theorem j_copyB {i o0 o1 sp dp n : Nat} (hd : qlk md.c pc = some (.invokestatic i, 3)) (hw : qCpy md.y.cls i) (ho0 : o0 < mz m) (ho1 : o1 < mz m) (hk0 : mk m o0 = 15) (hk1 : mk m o1 = 15) (h4 : sp + n ≤ mn m o0) (h5 : dp + n ≤ mn m o1) (b1 : sp < 2147483648) (b2 : dp < 2147483648) (b3 : n < 2147483648) (h01 : ∀ j, mi m o0 j = 0 ∨ mi m o0 j = 1)
    (hR : 1 ≤ R.frames) (hL : (st.map qcat).sum + (nativeFrameWords "java/lang/System" "arraycopy" 5 + 11) ≤ R.locals)
    (kk : qJ G md R F (pc + 3) ls st (cpi m o1 o0 sp dp n) cc cs) : qJ G md R F pc ls (vI (n : Int) :: vI (dp : Int) :: vR o1 :: vI (sp : Int) :: vR o0 :: st) m cc cs := by
  intro p e s mm args below meth c C H locs lsc hH hz hS hl
  refine va_copyi (ty := .byte) C.x C.b (by rw [C.n, hl.1]) C.o (C.t _ hw.1) (C.t _ hw.2.1) (C.t _ hw.2.2.1) (C.t _ hw.2.2.2) C.T.1 hH.2.1 (qws_D G m) (qS0 hS) o0 o1 2 2 (arrI_at ho0 hk0 (Or.inr (Or.inl rfl))) (arrI_at ho1 hk1 (Or.inr (Or.inl rfl))) rfl rfl rfl (zi_nneg b1) (zi_nneg b2) (zi_nneg b3) (by rw [zi_natc b1, zi_natc b3]; exact h4) (by rw [zi_natc b2, zi_natc b3]; exact h5) (fun j _ => by rcases h01 ((zi (sp : Int)).toNatClampNeg + j) with h | h <;> rw [h] <;> rfl) hR (by rw [qcat_sum]; exact hL) (C.d.at hd) (fun H1 locs1 hP1 _ hS1 => ?_)
  rw [zi_natc b1, zi_natc b2, zi_natc b3] at hP1
  exact qgo kk C hH hz hS hl rfl ((qset_ci (G := G) m hk1 (Or.inr (Or.inl rfl))) ▸ hP1) hS1
theorem j_copyL {i o0 o1 sp dp n : Nat} (hd : qlk md.c pc = some (.invokestatic i, 3)) (hw : qCpy md.y.cls i) (ho0 : o0 < mz m) (ho1 : o1 < mz m) (hk0 : mk m o0 = 14) (hk1 : mk m o1 = 14) (h4 : sp + n ≤ mn m o0) (h5 : dp + n ≤ mn m o1) (b1 : sp < 2147483648) (b2 : dp < 2147483648) (b3 : n < 2147483648)
    (hR : 1 ≤ R.frames) (hL : (st.map qcat).sum + (nativeFrameWords "java/lang/System" "arraycopy" 5 + 11) ≤ R.locals)
    (kk : qJ G md R F (pc + 3) ls st (cpl m o1 o0 sp dp n) cc cs) : qJ G md R F pc ls (vI (n : Int) :: vI (dp : Int) :: vR o1 :: vI (sp : Int) :: vR o0 :: st) m cc cs := by
  intro p e s mm args below meth c C H locs lsc hH hz hS hl
  refine va_copyl (ty := .long) C.x C.b (by rw [C.n, hl.1]) C.o (C.t _ hw.1) (C.t _ hw.2.1) (C.t _ hw.2.2.1) (C.t _ hw.2.2.2) C.T.1 hH.2.1 (qws_D G m) (qS0 hS) o0 o1 1 1 (arrL_at ho0 hk0) (arrL_at ho1 hk1) rfl rfl rfl (zi_nneg b1) (zi_nneg b2) (zi_nneg b3) (by rw [zi_natc b1, zi_natc b3]; exact h4) (by rw [zi_natc b2, zi_natc b3]; exact h5) (fun _ _ => rfl) hR (by rw [qcat_sum]; exact hL) (C.d.at hd) (fun H1 locs1 hP1 _ hS1 => ?_)
  rw [zi_natc b1, zi_natc b2, zi_natc b3] at hP1
  exact qgo kk C hH hz hS hl rfl ((qset_cl (G := G) m hk1) ▸ hP1) hS1
end QN

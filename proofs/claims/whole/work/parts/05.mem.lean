/-! THE LAYER. Numbers as Int (of which a cell keeps the lowest bits), cells by number from the law's start on, memory as functions -/
def zi (a : Int) : Int32 := Int32.ofInt a
def zl (a : Int) : Int64 := Int64.ofInt a
abbrev Vl : Type := Nat × Int
abbrev vI (a : Int) : Vl := (0, a)
abbrev vL (a : Int) : Vl := (1, a)
abbrev vR (n : Nat) : Vl := (4, (n : Int))
abbrev vN : Vl := (5, 0)
abbrev vO (k : Nat) : Vl := (6, (k : Int))
def vQ (o : Option Nat) : Vl := match o with
  | none => vN
  | some n => vR n
/-- the world: launch, heap at the law's start, class numbers, array classes, the old arrays' addresses, lengths, contents -/
abbrev QW : Type := Launch × Heap × va_G × (Nat → ClassId) × (Nat → Nat) × (Nat → Nat) × (Nat → Nat → Int32)
abbrev QW.l (G : QW) : Launch := G.1
abbrev QW.HB (G : QW) : Heap := G.2.1
abbrev QW.D (G : QW) : va_G := G.2.2.1
abbrev QW.tA (G : QW) : Nat → ClassId := G.2.2.2.1
abbrev QW.old (G : QW) : Nat → Nat := G.2.2.2.2.1
abbrev QW.oL (G : QW) : Nat → Nat := G.2.2.2.2.2.1
abbrev QW.ox (G : QW) : Nat → Nat → Int32 := G.2.2.2.2.2.2
def qv (G : QW) : Vl → Value
  | (0, a) => .int (zi a)
  | (1, a) => .long (zl a)
  | (4, n) => .ref (G.HB.size + n.toNat)
  | (6, n) => .ref (G.old n.toNat)
  | _ => .null
/-- memory: ints, longs, references by cell and place; kinds, lengths of the cells; how many -/
abbrev AM : Type := (Nat → Nat → Int) × (Nat → Nat → Int) × (Nat → Nat → Option Nat) × (Nat → Nat) × (Nat → Nat) × Nat
def mi (m : AM) (o k : Nat) : Int := (zi (m.1 o k)).toInt
theorem mi_rng (m : AM) (o k : Nat) : -2147483648 ≤ mi m o k ∧ mi m o k < 2147483648 := ⟨Int32.minValue_le_toInt _, Int32.toInt_lt _⟩
def ml (m : AM) (o k : Nat) : Int := (zl (m.2.1 o k)).toInt
theorem ml_rng (m : AM) (o k : Nat) : -9223372036854775808 ≤ ml m o k ∧ ml m o k < 9223372036854775808 := ⟨Int64.minValue_le_toInt _, Int64.toInt_lt _⟩
def mr (m : AM) : Nat → Nat → Option Nat := m.2.2.1
def mk (m : AM) : Nat → Nat := m.2.2.2.1
def mn (m : AM) : Nat → Nat := m.2.2.2.2.1
def mz (m : AM) : Nat := m.2.2.2.2.2
def u2 {α : Type} (f : Nat → Nat → α) (o k : Nat) (v : α) : Nat → Nat → α := fun p j => if p = o ∧ j = k then v else f p j
def si (m : AM) (o k : Nat) (v : Int) : AM := (u2 m.1 o k v, m.2)
def sl (m : AM) (o k : Nat) (v : Int) : AM := (m.1, u2 m.2.1 o k v, m.2.2)
def sr (m : AM) (o k : Nat) (v : Option Nat) : AM := (m.1, m.2.1, u2 m.2.2.1 o k v, m.2.2.2)
/-- a new cell of a kind and a length, all 0 or null -/
def am_new (m : AM) (kd len : Nat) : AM := (fun o k => if o = mz m then 0 else m.1 o k, fun o k => if o = mz m then 0 else m.2.1 o k, fun o k => if o = mz m then none else mr m o k, fun o => if o = mz m then kd else mk m o, fun o => if o = mz m then len else mn m o, mz m + 1)
theorem mi_si (m : AM) (o k : Nat) (v : Int) (p j : Nat) : mi (si m o k v) p j = if p = o ∧ j = k then (zi v).toInt else mi m p j := by
  show (zi (if p = o ∧ j = k then v else m.1 p j)).toInt = _
  by_cases h : p = o ∧ j = k
  · rw [if_pos h, if_pos h]
  · rw [if_neg h, if_neg h]
    rfl
theorem ml_si (m : AM) (o k : Nat) (v : Int) : ml (si m o k v) = ml m := rfl
theorem mr_si (m : AM) (o k : Nat) (v : Int) : mr (si m o k v) = mr m := rfl
theorem mk_si (m : AM) (o k : Nat) (v : Int) : mk (si m o k v) = mk m := rfl
theorem mn_si (m : AM) (o k : Nat) (v : Int) : mn (si m o k v) = mn m := rfl
theorem mz_si (m : AM) (o k : Nat) (v : Int) : mz (si m o k v) = mz m := rfl
theorem ml_sl (m : AM) (o k : Nat) (v : Int) (p j : Nat) : ml (sl m o k v) p j = if p = o ∧ j = k then (zl v).toInt else ml m p j := by
  show (zl (if p = o ∧ j = k then v else m.2.1 p j)).toInt = _
  by_cases h : p = o ∧ j = k
  · rw [if_pos h, if_pos h]
  · rw [if_neg h, if_neg h]
    rfl
theorem mi_sl (m : AM) (o k : Nat) (v : Int) : mi (sl m o k v) = mi m := rfl
theorem mr_sl (m : AM) (o k : Nat) (v : Int) : mr (sl m o k v) = mr m := rfl
theorem mk_sl (m : AM) (o k : Nat) (v : Int) : mk (sl m o k v) = mk m := rfl
theorem mn_sl (m : AM) (o k : Nat) (v : Int) : mn (sl m o k v) = mn m := rfl
theorem mz_sl (m : AM) (o k : Nat) (v : Int) : mz (sl m o k v) = mz m := rfl
theorem mr_sr (m : AM) (o k : Nat) (v : Option Nat) (p j : Nat) : mr (sr m o k v) p j = if p = o ∧ j = k then v else mr m p j := rfl
theorem mi_sr (m : AM) (o k : Nat) (v : Option Nat) : mi (sr m o k v) = mi m := rfl
theorem ml_sr (m : AM) (o k : Nat) (v : Option Nat) : ml (sr m o k v) = ml m := rfl
theorem mk_sr (m : AM) (o k : Nat) (v : Option Nat) : mk (sr m o k v) = mk m := rfl
theorem mn_sr (m : AM) (o k : Nat) (v : Option Nat) : mn (sr m o k v) = mn m := rfl
theorem mz_sr (m : AM) (o k : Nat) (v : Option Nat) : mz (sr m o k v) = mz m := rfl
def frL : List (List Nat) := [[0], [2, 3, 4], [0, 1], [0, 1, 2, 3, 4], [0, 1, 2, 3, 4], [0, 1, 2, 3, 4], [0, 4], [0, 1], [0, 1, 2, 3], [0, 1, 2, 3, 4, 5, 6], [0, 1, 2, 3, 4, 5, 6], [0, 1, 2, 3, 4, 5, 6, 7, 8, 9, 10, 11, 12, 13, 14, 15], [2, 3, 4, 5, 6, 7, 8, 9, 10, 11, 12, 13, 14, 15, 22, 23, 24, 25, 26, 27, 28, 29, 30, 31, 32, 33, 34, 41, 42, 52, 53, 54, 55, 56, 57, 58, 59, 60, 61, 63, 64, 65, 66, 67, 68, 69, 71, 72, 73, 74, 75, 77, 78, 79, 80, 81, 82, 83]]
def nfL : List Nat := [2, 6, 3, 5, 6, 9, 5, 5, 5, 8, 10, 20, 84]
/-- is the field k of the class c a reference; how many fields -/
def fr (c k : Nat) : Bool := (frL.getD c []).contains k
def nF (c : Nat) : Nat := nfL.getD c 0
def fvalE (G : QW) (m : AM) (n j : Nat) : Value := if fr (mk m n) j = true then va_rf ((mr m n j).map (G.HB.size + ·)) else .int (zi (mi m n j))
def aE (G : QW) (m : AM) (n : Nat) : vp_A := (mn m n, if mk m n = 14 then .inr (.inl (fun j => zl (ml m n j))) else if mk m n < 17 then .inl (fun j => zi (mi m n j)) else .inr (.inr (.inr (.inr (fun j => (mr m n j).map (G.HB.size + ·))))))
def cellE (G : QW) (m : AM) (n : Nat) : va_E := if mk m n < 13 then .inr (mk m n, (List.range (nF (mk m n))).map (fvalE G m n)) else .inl (G.tA (mk m n - 13), aE G m n)
def qws (G : QW) (m : AM) : va_W := (List.range (mz m)).map (fun n => (G.HB.size + n, cellE G m n))
theorem qws_at (G : QW) {m : AM} {n : Nat} (h : n < mz m) : (qws G m)[n]? = some (G.HB.size + n, cellE G m n) := by
  unfold qws
  rw [List.getElem?_map, List.getElem?_range h]
  rfl
theorem qws_len (G : QW) (m : AM) : (qws G m).length = mz m := by unfold qws; rw [List.length_map, List.length_range]
theorem qws_inv {G : QW} {m : AM} {n : Nat} {q : Nat × va_E} (h : (qws G m)[n]? = some q) : n < mz m ∧ q = (G.HB.size + n, cellE G m n) := by
  have hl : n < (qws G m).length := (List.getElem?_eq_some_iff.mp h).1
  rw [qws_len] at hl
  rw [qws_at G hl] at h
  exact ⟨hl, (Option.some.inj h).symm⟩
theorem qws_D (G : QW) (m : AM) : va_D (fun q => G.HB.size ≤ q) (qws G m) := by
  refine ⟨fun i j p q hi hj hpq => ?_, fun k q hk => ?_⟩
  · obtain ⟨h1, rfl⟩ := qws_inv hi
    obtain ⟨h2, rfl⟩ := qws_inv hj
    exact Nat.add_left_cancel hpq
  · obtain ⟨h1, rfl⟩ := qws_inv hk
    exact Nat.le_add_right _ _
def qtys (G : QW) : List (ClassId × FieldType) := [(G.tA 0, .int), (G.tA 1, .long), (G.tA 2, .byte), (G.tA 3, .boolean), (G.tA 4, .object RX1), (G.tA 5, .object RX3), (G.tA 6, .object RX7), (G.tA 7, .array .int)]
/-- the old arrays (0: the script, 1: BODIES, 2: ABOVE) and the statics that hold two of them -/
def qOld (G : QW) (U : State) : Prop := (∀ k, k < 3 → va_X (G.old k) (G.oL k) (G.ox k) U G.HB ∧ G.old k < G.HB.size) ∧ va_Z RX11 "BODIES" "[I" (.ref (G.old 1)) (fun q => G.HB.size ≤ q) U G.HB ∧ va_Z RX11 "ABOVE" "[I" (.ref (G.old 2)) (fun q => G.HB.size ≤ q) U G.HB
theorem qOld.moved {G : QW} {u U : State} (hvm : u.vm.Alike U.vm) (h : qOld G u) : qOld G U := ⟨fun k hk => ⟨(h.1 k hk).1.moved hvm, (h.1 k hk).2⟩, h.2.1.moved hvm, h.2.2.moved hvm⟩
/-- what a state holds: the memory m; the tables -/
def QH (G : QW) (m : AM) (H : Heap) : Prop := H.size = G.HB.size + mz m ∧ va_P G.D nbC (qws G m) H ∧ ∀ q : Nat, q < G.HB.size → H[q]? = G.HB[q]?
def nestM : List (String × Nat × MethodName) := [(RX11, 11, yX6_init), (RX11, 43, yX8_init), (RX11, 50, yX10_init), (RX11, 57, yX0_init), (RX11, 64, yX9_init), (RX11, 89, yX2_init), (RX11, 96, yX5_init), (RX11, 105, yX7_init), (RX1, 20, yX5_init)]
def nestF : List (String × Nat × String × String × String) := [(RX0, 15, RX11, "BODIES", "[I"), (RX0, 18, RX11, "ABOVE", "[I")]
def qNest (U : State) : Prop := (∀ q ∈ nestM, va_Nw (.methodLinkNest q.1 q.2.1 q.2.2 RX11) U) ∧ ∀ q ∈ nestF, va_Nw (.fieldLinkNest q.1 q.2.1 q.2.2.1 q.2.2.2.1 q.2.2.2.2 RX11) U
theorem qNest.warm {s U : State} (hW : s.WarmedH U.vm) (h : qNest s) : qNest U := ⟨fun q hq => va_Nw.warmM hW (h.1 q hq), fun q hq => va_Nw.warmF hW (h.2 q hq)⟩
theorem qNest.same {s U : State} (hW : s.vm = U.vm) (h : qNest s) : qNest U := ⟨fun q hq => va_Nw.same rfl hW (h.1 q hq), fun q hq => va_Nw.same rfl hW (h.2 q hq)⟩
/-- the class of the rows of rows of ints stands -/
def qAA (U : State) : Prop := (Cond.arrayOver (.array .int)).before #[] U = true
theorem qAA.moved {u U : State} (hvm : u.vm.Alike U.vm) (h : qAA u) : qAA U := by
  refine Eq.trans ?_ h
  simp only [Cond.before, Cond.holds, Cond.value, hvm.findClass]
  congr 1
  congr 1
  funext comp
  rw [hvm.findIdx_eqC _ (fun k => rfl)]
  congr 1
  funext c
  exact hvm.class_map _ (fun k r _ _ => rfl) c
def qOver (U : State) : Prop := va_AO RX1 U ∧ va_AO RX3 U ∧ va_AO RX7 U ∧ qAA U
def QT (G : QW) (U : State) : Prop := va_K G.D nbC (qtys G) U ∧ qOld G U ∧ qNest U ∧ qOver U
theorem QT.warm {G : QW} {s U : State} (hW : s.WarmedH U.vm) (h : QT G s) : QT G U := ⟨h.1.moved hW.alike, h.2.1.moved hW.alike, h.2.2.1.warm hW, h.2.2.2.1.moved hW.alike, h.2.2.2.2.1.moved hW.alike, h.2.2.2.2.2.1.moved hW.alike, h.2.2.2.2.2.2.moved hW.alike⟩
theorem QT.same {G : QW} {s U : State} (hW : s.vm = U.vm) (h : QT G s) : QT G U := by
  have ha : s.vm.Alike U.vm := by rw [← hW]; exact Vm.Alike.refl s.vm
  exact ⟨h.1.moved ha, h.2.1.moved ha, h.2.2.1.same hW, h.2.2.2.1.moved ha, h.2.2.2.2.1.moved ha, h.2.2.2.2.2.1.moved ha, h.2.2.2.2.2.2.moved ha⟩
def llk : List (Nat × Vl) → Nat → Option Vl
  | [], _ => none
  | q :: l, i => if q.1 = i then some q.2 else llk l i
theorem llk_mem {l : List (Nat × Vl)} {i : Nat} {x : Vl} (h : llk l i = some x) : (i, x) ∈ l := by
  induction l with
  | nil => cases h
  | cons q l ih =>
    unfold llk at h
    by_cases e : q.1 = i
    · rw [if_pos e] at h
      cases h
      rw [← e]
      exact List.mem_cons_self
    · rw [if_neg e] at h
      exact List.mem_cons_of_mem _ (ih h)
def lset (ls : List (Nat × Vl)) (i : Nat) (v : Vl) : List (Nat × Vl) := (i, v) :: ls.filter (fun q => !(q.1 == i) && !(q.1 + 1 == i && q.2.1 == 1))
def lset2 (ls : List (Nat × Vl)) (i : Nat) (v : Vl) : List (Nat × Vl) := (i, v) :: ls.filter (fun q => !(q.1 == i) && (!(q.1 == i + 1) && !(q.1 + 1 == i && q.2.1 == 1)))
def lmap (G : QW) (ls : List (Nat × Vl)) : List (Nat × Value) := ls.map (fun q => (q.1, qv G q.2))
theorem qv_cat (G : QW) (v : Vl) : ((qv G v).category == 2) = (v.1 == 1) := by
  obtain ⟨t, a⟩ := v
  match t with
  | 0 => rfl
  | 1 => rfl
  | 2 => rfl
  | 3 => rfl
  | 4 => rfl
  | 5 => rfl
  | 6 => rfl
  | t + 7 => rfl
theorem lmap_set (G : QW) (ls : List (Nat × Vl)) (i : Nat) (v : Vl) : (i, qv G v) :: (lmap G ls).filter (fun q => !(q.1 == i) && !(q.1 + 1 == i && q.2.category == 2)) = lmap G (lset ls i v) := by
  unfold lmap lset
  rw [List.map_cons, List.filter_map]
  congr 3
  funext q
  simp only [Function.comp, qv_cat]
theorem lmap_set2 (G : QW) (ls : List (Nat × Vl)) (i : Nat) (v : Vl) : (i, qv G v) :: (lmap G ls).filter (fun q => !(q.1 == i) && (!(q.1 == i + 1) && !(q.1 + 1 == i && q.2.category == 2))) = lmap G (lset2 ls i v) := by
  unfold lmap lset2
  rw [List.map_cons, List.filter_map]
  congr 3
  funext q
  simp only [Function.comp, qv_cat]
theorem lmap_at {G : QW} {ls : List (Nat × Vl)} {lsc : Array Slot} {nL i : Nat} {v : Vl} (h : lv_has lsc nL (lmap G ls)) (hl : llk ls i = some v) : lsc[i]? = some (.val (qv G v)) :=
  h.2.2 (i, qv G v) (List.mem_map.mpr ⟨(i, v), llk_mem hl, rfl⟩)
/-- where a frame stands -/
def qC (G : QW) (md : MD) (p : Program) (s : State) (mm : MethodId) (args : Array Value) (meth : Method) (c : Code) : Prop :=
  p.tables.exec = Jvm.exec ∧ c.code = md.b ∧ c.maxLocals = md.n ∧ s.vm.findClass md.y.cls = some mm.cls ∧ (∀ w ∈ tb, w.before args s = true) ∧ meth.sig.returnType = md.r ∧ meth.locks = false ∧ meth.name = md.y.name ∧ QT G s ∧ G.HB.size ≤ s.heap.size ∧ qDec md ∧ ∀ q : Nat, q < G.HB.size → s.heap[q]? = G.HB[q]?
abbrev QFin : Type := List Frame → Array Value → State → State → Prop
def qJ (G : QW) (md : MD) (R : Room) (F : QFin) (pc : Nat) (ls : List (Nat × Vl)) (st : List Vl) (m : AM) (cc cs : Nat) : Prop :=
  ∀ (p : Program) (e : Env) (s : State) (mm : MethodId) (args : Array Value) (below : List Frame) (meth : Method) (c : Code), qC G md p s mm args meth c →
  ∀ (H : Heap) (locs : List Loc) (lsc : Array Slot), QH G m H → H.size = s.heap.size + cc → va_S (fun q => G.HB.size ≤ q) s.heap H locs → lv_has lsc md.n (lmap G ls) →
  W p G.l e R s mm args below meth c H locs cc cs (F below args s) (F0 mm pc lsc (st.map (qv G)))
def qQ (G : QW) (mc : Nat) (Rp : Option Vl → AM → Prop) : Array Value → State → Outcome → State → Prop := fun _ st o t => ∃ (v : Option Vl) (m' : AM), o = .returned (v.map (qv G)) ∧ Rp v m' ∧ QH G m' t.heap ∧ t.heap.size = st.heap.size + mc
def qM (G : QW) (md : MD) (d mc ms : Nat) (as : List Vl) (m : AM) (Rp : Option Vl → AM → Prop) : Prop :=
  Met G.l md.y (.code md.y md.b md.n md.r :: tb) { frames := d, cells := mc, slots := ms, locals := 60 * d } (va_Pc (as.map (qv G)) (fun U => QH G m U.heap ∧ QT G U)) (qQ G mc Rp) mc ms (fun q => G.HB.size ≤ q)
def qF (G : QW) (Rp : Option Vl → AM → Prop) (mc ms : Nat) : QFin := fun below args s => MQ below (qQ G mc Rp) args s mc ms (fun q => G.HB.size ≤ q)
def qargs : Nat → List Vl → List (Nat × Vl)
  | _, [] => []
  | i, v :: vs => (i, v) :: qargs (if v.1 = 1 then i + 2 else i + 1) vs
theorem qargs_map (G : QW) (as : List Vl) : ∀ i, lv_args i (as.map (qv G)) = lmap G (qargs i as) := by
  induction as with
  | nil => intro i; rfl
  | cons v vs ih =>
    intro i
    have hc := qv_cat G v
    have h : (if (qv G v).category = 2 then i + 2 else i + 1) = (if v.1 = 1 then i + 2 else i + 1) := by
      by_cases e : v.1 = 1
      · rw [if_pos e, if_pos]
        rw [beq_iff_eq.mpr e] at hc
        exact beq_iff_eq.mp hc
      · rw [if_neg e, if_neg]
        rw [beq_eq_false_iff_ne.mpr e] at hc
        exact beq_eq_false_iff_ne.mp hc
    show (i, qv G v) :: lv_args _ _ = _
    rw [h, ih]
    rfl
/-- as 'Met.ofW', of a method that no native stands for -/
theorem qMet {l : Launch} {y : MethodName} {ws ws' : List Cond} {rm : Room} {Pc : Array Value → State → Prop} {Qc : Array Value → State → Outcome → State → Prop} {mc ms : Nat} {free : Addr → Prop} {cc : ByteArray} {maxL : Nat} {ret : Option FieldType} (hy : plainFor y = true) (hw : ws = Cond.code y cc maxL ret :: ws')
    (body : ∀ p e s m args below meth c s₁, BodyLoose p l y (headSpec ws rm) cc maxL ret e s m args below meth c s₁ → c.maxLocals = maxL → Pc args s → W p l e (headSpec ws rm).room s m args below meth c s.heap [] 0 0 (MQ below Qc args s mc ms free) (entryFrame m args maxL)) : Met l y ws rm Pc Qc mc ms free := by
  refine MetFree.of_bodySF (code := cc) (maxLocals := maxL) (ret := ret) hy (fun args s m h hn => ?_) (fun p e s m args below meth c s₁ B hml hP _ => ?_)
  · obtain ⟨meth, c, h1, h2, h3, h4, h5, h6, -, -⟩ := Cond.code_spec hn (atoms_spec (ws := ws) h _ (by rw [hw]; exact List.mem_cons_self))
    exact ⟨meth, c, h1, h2, h3, h4, h5, h6⟩
  · obtain ⟨t, a1, o, b1, b2, b3, b4⟩ := body p e s m args below meth c s₁ B hml hP s₁ (by rw [B.state]; rfl) (Stand.of_body B)
    exact ⟨t, o, a1, b1, b2, b3, b4⟩
theorem qM.intro {G : QW} {md : MD} {na d mc ms : Nat} {as : List Vl} {m : AM} {Rp : Option Vl → AM → Prop} (ok : qOK md na) (hlen : (lg_sl (as.map (qv G))).length ≤ md.n)
    (k : qJ G md { frames := d, cells := mc, slots := ms, locals := 60 * d } (qF G Rp mc ms) 0 (qargs 0 as) [] m 0 0) : qM G md d mc ms as m Rp := by
  refine qMet (cc := md.b) (maxL := md.n) (ret := md.r) ok.1 rfl ?_
  intro p e s mm args below meth c s₁ B hml hv
  obtain ⟨rfl, hH, hT⟩ := hv
  have hts := atoms_spec (ws := .code md.y md.b md.n md.r :: tb) B.pre
  have hl := lv_entry (as.map (qv G)) hlen
  rw [lg_entry_eq]
  rw [qargs_map] at hl
  exact k p e s mm _ below meth c ⟨B.exec, B.bytes, hml, findClass_of_methodNamed B.named, fun w h => hts w (List.mem_cons_of_mem _ h), B.returns, B.notSynchronized, (name_of_methodNamed B.named B.method).1, hT, by rw [hH.1]; exact Nat.le_add_right _ _, ok.2.1, hH.2.2⟩ s.heap [] _ hH rfl va_S.rf hl
theorem qM.mono {G : QW} {md : MD} {d mc ms : Nat} {as : List Vl} {m : AM} {Rp Rp' : Option Vl → AM → Prop} (h : qM G md d mc ms as m Rp) (hR : ∀ v m', Rp v m' → Rp' v m') : qM G md d mc ms as m Rp' := by
  intro p e ha hc hk s mm args below hf happ hP hK
  obtain ⟨k, o, h1, h2, h3, hQ⟩ := h p e ha hc hk s mm args below hf happ hP hK
  obtain ⟨⟨v, m', q1, q2, q3⟩, h4⟩ := hQ
  exact ⟨k, o, h1, h2, h3, ⟨v, m', q1, hR _ _ q2, q3⟩, h4⟩

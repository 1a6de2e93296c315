/-! the law's entry: what the Statement gives of the start -/
theorem eq_int_of {args : Array Value} {s : State} {t : Term} {z : Int32} (h : (Cond.eq t (.int z)).before args s = true) : t.eval args s none [] s = some (.int z) := by
  cases hv : t.eval args s none [] s with
  | none => simp [Cond.before, Cond.holds, Cond.value, hv] at h
  | some w =>
    have hz : (Term.int z).eval args s none [] s = some (.int z) := rfl
    simp only [Cond.before, Cond.holds, Cond.value, hv, hz] at h
    cases w <;> simp_all
/-- an array of ints that a term names, its length and what it holds given -/
theorem law_arr {args : Array Value} {s : State} {t : Term} {N : Nat} {xs : List Int} (hN : N < 1000) (ha : (Cond.arrayOf t .int).before args s = true) (hl : (Cond.eq (.length t) (.int (Int32.ofNat N))).before args s = true)
    (he : ∀ j : Nat, j < N → (Cond.eq (.elem t (.int (Int32.ofNat j))) (.int (zi (List.getD xs j 0)))).before args s = true) : ∃ b : Nat, t.eval args s none [] s = some (.ref b) ∧ b < s.heap.size ∧ va_X b N (fun j => zi (List.getD xs j 0)) s s.heap := by
  have hv := eq_int_of hl
  obtain ⟨b, cell, ht, harr, e⟩ := Term.length_spec hv
  have hsz : cell.slots.size < 2 ^ 31 := by
    simp only [Term.eval, ht, harr, Option.bind_eq_bind, Option.bind_some] at hv
    by_cases hlt : cell.slots.size < 2147483648
    · exact hlt
    · simp [hlt] at hv
  have hn : cell.slots.size = N := by
    injection e with e1
    have e2 : (Int32.ofNat N).toInt = (Int32.ofNat cell.slots.size).toInt := congrArg Int32.toInt e1
    rw [Int32.toInt_ofNat_small (by omega), Int32.toInt_ofNat_small hsz] at e2
    omega
  obtain ⟨hcell, hkn, -, -⟩ := State.arrayAt?_spec harr
  refine ⟨b, ht, (Array.getElem?_eq_some_iff.mp hcell).1, cell, hcell, (Cond.arrayOf_spec ha ht hcell).1, hkn, hn, fun j hj => ?_⟩
  obtain ⟨b', j', cell', ht', hj', harr', -, hv'⟩ := Term.elem_spec (eq_int_of (he j hj))
  cases ht.symm.trans ht'
  cases harr.symm.trans harr'
  have ej : Value.int (Int32.ofNat j) = Value.int j' := Option.some.inj hj'
  injection ej with ej
  have e3 : j'.toNatClampNeg = j := by
    rw [← ej]
    show (Int32.ofNat j).toInt.toNat = j
    rw [Int32.toInt_ofNat_small (by omega)]
    rfl
  rw [e3] at hv'
  exact hv'
theorem lt_of {w : Cond} (i : Nat) (h : tables_1[i]? = some w) : w ∈ lw_tbl := List.mem_append_right _ (List.mem_of_getElem? h)
/-- the classes of the arrays -/
def tyL : List FieldType := [.int, .long, .byte, .boolean, .object RX1, .object RX3, .object RX7, .array .int]
theorem ty_obj {s : State} {args : Array Value} {C : String} (h : (Cond.arrayOver (.object C)).before args s = true) : ∃ c : ClassId, ArrOfT s c (.object C) ∧ va_RA s c (.object C) := by
  obtain ⟨comp, c, kA, h1, -, h3, h4, h5⟩ := Cond.arrayOver_spec h
  exact ⟨c, fun n z => ⟨(fun k h => by cases h), kA, h3, comp, h4⟩, kA, comp, h3, h4, h1, h5⟩
theorem ty_arr {s : State} {args : Array Value} (h : (Cond.arrayOver (.array .int)).before args s = true) : ∃ c : ClassId, ArrOfT s c (.array .int) ∧ va_RA s c (.array .int) := by
  obtain ⟨comp, c, kA, h1, h3, h4, h5⟩ := Cond.arrayOver_specA h
  exact ⟨c, fun n z => ⟨(fun k h => by cases h), kA, h3, comp, h4⟩, h5⟩
theorem ty_int {s : State} {args : Array Value} (h : (Cond.arrayClass .int).before args s = true) : ∃ c : ClassId, ArrOfT s c .int ∧ va_RA s c .int := by
  obtain ⟨c, kA, comp, h1, h2, h3⟩ := Cond.arrayClass_spec h
  exact ⟨c, fun n z => ⟨(fun k h => by cases h), kA, h2, comp, h3⟩, h1⟩
theorem ty_long {s : State} {args : Array Value} (h : (Cond.arrayClass .long).before args s = true) : ∃ c : ClassId, ArrOfT s c .long ∧ va_RA s c .long := by
  obtain ⟨c, kA, comp, h1, h2, h3⟩ := Cond.arrayClass_spec h
  exact ⟨c, fun n z => ⟨(fun k h => by cases h), kA, h2, comp, h3⟩, h1⟩
theorem ty_byte {s : State} {args : Array Value} (h : (Cond.arrayClass .byte).before args s = true) : ∃ c : ClassId, ArrOfT s c .byte ∧ va_RA s c .byte := by
  obtain ⟨c, kA, comp, h1, h2, h3⟩ := Cond.arrayClass_spec h
  exact ⟨c, fun n z => ⟨(fun k h => by cases h), kA, h2, comp, h3⟩, h1⟩
theorem ty_boolean {s : State} {args : Array Value} (h : (Cond.arrayClass .boolean).before args s = true) : ∃ c : ClassId, ArrOfT s c .boolean ∧ va_RA s c .boolean := by
  obtain ⟨c, kA, comp, h1, h2, h3⟩ := Cond.arrayClass_spec h
  exact ⟨c, fun n z => ⟨(fun k h => by cases h), kA, h2, comp, h3⟩, h1⟩
theorem tb_lw {args : Array Value} {s : State} (hts : ∀ w ∈ lw_tbl, w.before args s = true) : ∀ w ∈ tb, w.before args s = true := fun w h => hts w (List.mem_filter.mp h).1
theorem ov_1 : Cond.arrayOver (.object RX1) ∈ lw_tbl := lt_of 51 (by decide +kernel)
theorem ov_3 : Cond.arrayOver (.object RX3) ∈ lw_tbl := lt_of 53 (by decide +kernel)
theorem ov_7 : Cond.arrayOver (.object RX7) ∈ lw_tbl := lt_of 55 (by decide +kernel)
theorem ov_A : Cond.arrayOver (.array .int) ∈ lw_tbl := lt_of 214 (by decide +kernel)
theorem law_ty {args : Array Value} {s : State} (hts : ∀ w ∈ lw_tbl, w.before args s = true) : ∀ k : Nat, ∃ c : ClassId, ∀ ty : FieldType, tyL[k]? = some ty → ArrOfT s c ty ∧ va_RA s c ty := by
  have ht := tb_lw hts
  have one : ∀ {k : Nat} {t : FieldType}, tyL[k]? = some t → (∃ c : ClassId, ArrOfT s c t ∧ va_RA s c t) → ∃ c : ClassId, ∀ ty : FieldType, tyL[k]? = some ty → ArrOfT s c ty ∧ va_RA s c ty := fun {k t} hk ⟨c, hc⟩ => ⟨c, fun ty h => by
    have e : t = ty := Option.some.inj (hk.symm.trans h)
    rw [← e]
    exact hc⟩
  intro k
  match k with
  | 0 => exact one (t := .int) rfl (ty_int (ht _ wa_int))
  | 1 => exact one (t := .long) rfl (ty_long (ht _ wa_long))
  | 2 => exact one (t := .byte) rfl (ty_byte (ht _ wa_byte))
  | 3 => exact one (t := .boolean) rfl (ty_boolean (ht _ wa_boolean))
  | 4 => exact one (t := .object RX1) rfl (ty_obj (hts _ ov_1))
  | 5 => exact one (t := .object RX3) rfl (ty_obj (hts _ ov_3))
  | 6 => exact one (t := .object RX7) rfl (ty_obj (hts _ ov_7))
  | 7 => exact one (t := .array .int) rfl (ty_arr (hts _ ov_A))
  | k + 8 => exact ⟨0, fun ty h => by simp [tyL] at h⟩
theorem law_cl {args : Array Value} {s : State} (hts : ∀ w ∈ tb, w.before args s = true) : ∀ k : Nat, ∃ c : ClassId × (Nat → Nat), ∀ q : vw_C, nbC[k]? = some q → u_Kn s q.1 q.2.1 q.2.2 c.1 c.2 := by
  have one : ∀ {k : Nat} {r : vw_C}, nbC[k]? = some r → (∃ (cC : ClassId) (iS : Nat → Nat), u_Kn s r.1 r.2.1 r.2.2 cC iS) → ∃ c : ClassId × (Nat → Nat), ∀ q : vw_C, nbC[k]? = some q → u_Kn s q.1 q.2.1 q.2.2 c.1 c.2 := fun {k r} hk ⟨cC, iS, hc⟩ => ⟨(cC, iS), fun q h => by
    have e : r = q := Option.some.inj (hk.symm.trans h)
    rw [← e]
    exact hc⟩
  intro k
  match k with
  | 0 => exact one (r := (RX0, TX0, 2)) rfl (u_known hts hin_X0 (hts _ insX0))
  | 1 => exact one (r := (RX1, TX1, 6)) rfl (u_known hts hin_X1 (hts _ insX1))
  | 2 => exact one (r := (RX2, TX2, 3)) rfl (u_known hts hin_X2 (hts _ insX2))
  | 3 => exact one (r := (RX3, TX3, 5)) rfl (u_known hts hin_X3 (hts _ insX3))
  | 4 => exact one (r := (RX4, TX4, 6)) rfl (u_known hts hin_X4 (hts _ insX4))
  | 5 => exact one (r := (RX5, TX5, 9)) rfl (u_known hts hin_X5 (hts _ insX5))
  | 6 => exact one (r := (RX6, TX6, 5)) rfl (u_known hts hin_X6 (hts _ insX6))
  | 7 => exact one (r := (RX7, TX7, 5)) rfl (u_known hts hin_X7 (hts _ insX7))
  | 8 => exact one (r := (RX8, TX8, 5)) rfl (u_known hts hin_X8 (hts _ insX8))
  | 9 => exact one (r := (RX9, TX9, 8)) rfl (u_known hts hin_X9 (hts _ insX9))
  | 10 => exact one (r := (RX10, TX10, 10)) rfl (u_known hts hin_X10 (hts _ insX10))
  | 11 => exact one (r := (RX11, TX11, 20)) rfl (u_known hts hin_X11 (hts _ insX11))
  | 12 => exact one (r := (RX12, TX12, 84)) rfl (u_known hts hin_X12 (hts _ insX12))
  | k + 13 => exact ⟨(0, fun _ => 0), fun q h => by simp [nbC] at h⟩
theorem law_nm : ∀ q ∈ nestM, Cond.methodLinkNest q.1 q.2.1 q.2.2 RX11 ∈ lw_tbl := List.forall_mem_cons.mpr ⟨lt_of 28 (by decide +kernel), List.forall_mem_cons.mpr ⟨lt_of 91 (by decide +kernel), List.forall_mem_cons.mpr ⟨lt_of 114 (by decide +kernel), List.forall_mem_cons.mpr ⟨lt_of 151 (by decide +kernel), List.forall_mem_cons.mpr ⟨lt_of 166 (by decide +kernel), List.forall_mem_cons.mpr ⟨lt_of 236 (by decide +kernel), List.forall_mem_cons.mpr ⟨lt_of 252 (by decide +kernel), List.forall_mem_cons.mpr ⟨lt_of 312 (by decide +kernel), List.forall_mem_cons.mpr ⟨lt_of 416 (by decide +kernel), fun _ h => absurd h List.not_mem_nil⟩⟩⟩⟩⟩⟩⟩⟩⟩
theorem law_nf : ∀ q ∈ nestF, Cond.fieldLinkNest q.1 q.2.1 q.2.2.1 q.2.2.2.1 q.2.2.2.2 RX11 ∈ lw_tbl := List.forall_mem_cons.mpr ⟨lt_of 979 (by decide +kernel), List.forall_mem_cons.mpr ⟨lt_of 981 (by decide +kernel), fun _ h => absurd h List.not_mem_nil⟩⟩
/-- the two tables of the class, as the Statement gives them -/
theorem nar_b : ∀ j : Nat, j < 28 → Cond.eq (.elem (.static "NarrowBox" "BODIES" "[I") (.int (Int32.ofNat j))) (.int (zi (List.getD bodA j 0))) ∈ flatC (Jvm.Cond.and given_1 narrow_1) := by decide +kernel
theorem nar_a : ∀ j : Nat, j < 7 → Cond.eq (.elem (.static "NarrowBox" "ABOVE" "[I") (.int (Int32.ofNat j))) (.int (zi (List.getD abvA j 0))) ∈ flatC (Jvm.Cond.and given_1 narrow_1) := by decide +kernel
theorem zi_b : ∀ j : Nat, j < 28 → (zi (List.getD bodA j 0)).toInt = List.getD bodA j 0 := by decide +kernel
theorem zi_a : ∀ j : Nat, j < 7 → (zi (List.getD abvA j 0)).toInt = List.getD abvA j 0 := by decide +kernel
theorem law_QT {l : Launch} {s : State} {args : Array Value} {b L : Nat} {xs : Nat → Int32} (hts : ∀ w ∈ lw_tbl, w.before args s = true) (hX : va_X b L xs s s.heap) (hbl : b < s.heap.size) (hgv : (Jvm.Cond.and given_1 narrow_1).before args s = true) : ∃ G : QW, G.l = l ∧ G.HB = s.heap ∧ G.old 0 = b ∧ G.oL 0 = L ∧ TB G ∧ QT G s := by
  have hs := flat_of_before _ hgv
  have ht := tb_lw hts
  obtain ⟨b1, e1, l1, X1⟩ := law_arr (args := args) (s := s) (t := .static "NarrowBox" "BODIES" "[I") (N := 28) (xs := bodA) (by decide) (hs _ (by decide +kernel)) (hs _ (by decide +kernel)) (fun j hj => hs _ (nar_b j hj))
  obtain ⟨b2, e2, l2, X2⟩ := law_arr (args := args) (s := s) (t := .static "NarrowBox" "ABOVE" "[I") (N := 7) (xs := abvA) (by decide) (hs _ (by decide +kernel)) (hs _ (by decide +kernel)) (fun j hj => hs _ (nar_a j hj))
  obtain ⟨D, hD⟩ := Classical.axiomOfChoice (law_cl ht)
  obtain ⟨tA, hA⟩ := Classical.axiomOfChoice (law_ty hts)
  have hq : ∀ a : Nat, a < s.heap.size → ¬ (fun q : Nat => s.heap.size ≤ q) a := fun a h => Nat.not_le.mpr h
  have z1 : va_Z RX11 "BODIES" "[I" (.ref b1) (fun q : Nat => s.heap.size ≤ q) s s.heap := va_Zref (hts _ (lt_of 980 (by decide +kernel))) (ht _ iniX11) e1 hq
  have z2 : va_Z RX11 "ABOVE" "[I" (.ref b2) (fun q : Nat => s.heap.size ≤ q) s s.heap := va_Zref (hts _ (lt_of 982 (by decide +kernel))) (ht _ iniX11) e2 hq
  refine ⟨(l, s.heap, (fun k => (D k).1, fun k => (D k).2), tA, (fun k => if k = 0 then b else if k = 1 then b1 else b2), (fun k => if k = 0 then L else if k = 1 then 28 else 7), (fun k => if k = 0 then xs else if k = 1 then (fun j => zi (List.getD bodA j 0)) else fun j => zi (List.getD abvA j 0))), rfl, rfl, rfl, rfl, ⟨⟨rfl, rfl⟩, zi_b, zi_a⟩, ⟨fun c q hc => hD c q hc, fun k q hk => ?_⟩, ⟨fun k hk => ?_, z1, z2⟩, ⟨fun q hq => va_Nw.of rfl (hts _ (law_nm q hq)), fun q hq => va_Nw.of rfl (hts _ (law_nf q hq))⟩, va_AO.of (hts _ ov_1), va_AO.of (hts _ ov_3), va_AO.of (hts _ ov_7), hts _ ov_A⟩
  · match k, hk with
    | 0, hk =>
      have e : ((tA 0, .int) : ClassId × FieldType) = q := Option.some.inj hk
      rw [← e]
      exact hA 0 (.int) rfl
    | 1, hk =>
      have e : ((tA 1, .long) : ClassId × FieldType) = q := Option.some.inj hk
      rw [← e]
      exact hA 1 (.long) rfl
    | 2, hk =>
      have e : ((tA 2, .byte) : ClassId × FieldType) = q := Option.some.inj hk
      rw [← e]
      exact hA 2 (.byte) rfl
    | 3, hk =>
      have e : ((tA 3, .boolean) : ClassId × FieldType) = q := Option.some.inj hk
      rw [← e]
      exact hA 3 (.boolean) rfl
    | 4, hk =>
      have e : ((tA 4, .object RX1) : ClassId × FieldType) = q := Option.some.inj hk
      rw [← e]
      exact hA 4 (.object RX1) rfl
    | 5, hk =>
      have e : ((tA 5, .object RX3) : ClassId × FieldType) = q := Option.some.inj hk
      rw [← e]
      exact hA 5 (.object RX3) rfl
    | 6, hk =>
      have e : ((tA 6, .object RX7) : ClassId × FieldType) = q := Option.some.inj hk
      rw [← e]
      exact hA 6 (.object RX7) rfl
    | 7, hk =>
      have e : ((tA 7, .array .int) : ClassId × FieldType) = q := Option.some.inj hk
      rw [← e]
      exact hA 7 (.array .int) rfl
    | k + 8, hk => simp [qtys] at hk
  · match k, hk with
    | 0, _ => exact ⟨hX, hbl⟩
    | 1, _ => exact ⟨X1, l1⟩
    | 2, _ => exact ⟨X2, l2⟩
    | k + 3, hk => exact absurd hk (by omega)

/-! numbers: an Int and what a slot keeps of it -/
theorem zi_add (a b : Int) : zi (a + b) = zi a + zi b := Int32.ofInt_add a b
theorem zi_sub (a b : Int) : zi (a - b) = zi a - zi b := Int32.ofInt_sub a b
theorem zi_mul (a b : Int) : zi (a * b) = zi a * zi b := Int32.ofInt_mul a b
theorem zi_neg (a : Int) : zi (-a) = -zi a := Int32.ofInt_neg a
theorem zl_add (a b : Int) : zl (a + b) = zl a + zl b := Int64.ofInt_add a b
theorem zl_sub (a b : Int) : zl (a - b) = zl a - zl b := Int64.ofInt_sub a b
theorem zl_mul (a b : Int) : zl (a * b) = zl a * zl b := Int64.ofInt_mul a b
theorem zl_neg (a : Int) : zl (-a) = -zl a := Int64.ofInt_neg a
theorem zi_toInt {a : Int} (h : -2147483648 ≤ a) (h2 : a < 2147483648) : (zi a).toInt = a := Int32.toInt_ofInt_of_le h h2
theorem zl_toInt {a : Int} (h : -9223372036854775808 ≤ a) (h2 : a < 9223372036854775808) : (zl a).toInt = a := Int64.toInt_ofInt_of_le h h2
theorem zi_of (x : Int32) : zi x.toInt = x := Int32.ofInt_toInt x
theorem zl_of (x : Int64) : zl x.toInt = x := Int64.ofInt_toInt x
theorem zi_inj {a b : Int} (ha : -2147483648 ≤ a) (ha2 : a < 2147483648) (hb : -2147483648 ≤ b) (hb2 : b < 2147483648) (h : zi a = zi b) : a = b := by
  rw [← zi_toInt ha ha2, ← zi_toInt hb hb2, h]
theorem zl_inj {a b : Int} (ha : -9223372036854775808 ≤ a) (ha2 : a < 9223372036854775808) (hb : -9223372036854775808 ≤ b) (hb2 : b < 9223372036854775808) (h : zl a = zl b) : a = b := by
  rw [← zl_toInt ha ha2, ← zl_toInt hb hb2, h]
theorem zi_eq {a b : Int} (ha : -2147483648 ≤ a) (ha2 : a < 2147483648) (hb : -2147483648 ≤ b) (hb2 : b < 2147483648) : zi a = zi b ↔ a = b := ⟨zi_inj ha ha2 hb hb2, fun h => by rw [h]⟩
theorem zi_ne {a b : Int} (ha : -2147483648 ≤ a) (ha2 : a < 2147483648) (hb : -2147483648 ≤ b) (hb2 : b < 2147483648) : zi a ≠ zi b ↔ a ≠ b := not_congr (zi_eq ha ha2 hb hb2)
theorem zi_lt {a b : Int} (ha : -2147483648 ≤ a) (ha2 : a < 2147483648) (hb : -2147483648 ≤ b) (hb2 : b < 2147483648) : zi a < zi b ↔ a < b := by
  rw [Int32.lt_iff_toInt_lt, zi_toInt ha ha2, zi_toInt hb hb2]
theorem zi_le {a b : Int} (ha : -2147483648 ≤ a) (ha2 : a < 2147483648) (hb : -2147483648 ≤ b) (hb2 : b < 2147483648) : zi a ≤ zi b ↔ a ≤ b := by
  rw [Int32.le_iff_toInt_le, zi_toInt ha ha2, zi_toInt hb hb2]
theorem zi_ge {a b : Int} (ha : -2147483648 ≤ a) (ha2 : a < 2147483648) (hb : -2147483648 ≤ b) (hb2 : b < 2147483648) : zi b ≤ zi a ↔ a ≥ b := zi_le hb hb2 ha ha2
theorem zi_gt {a b : Int} (ha : -2147483648 ≤ a) (ha2 : a < 2147483648) (hb : -2147483648 ≤ b) (hb2 : b < 2147483648) : zi b < zi a ↔ a > b := zi_lt hb hb2 ha ha2
theorem zi_eq0 {a : Int} (ha : -2147483648 ≤ a) (ha2 : a < 2147483648) : zi a = 0 ↔ a = 0 := zi_eq (b := 0) ha ha2 (by decide) (by decide)
theorem zi_ne0 {a : Int} (ha : -2147483648 ≤ a) (ha2 : a < 2147483648) : zi a ≠ 0 ↔ a ≠ 0 := zi_ne (b := 0) ha ha2 (by decide) (by decide)
theorem zi_lt0 {a : Int} (ha : -2147483648 ≤ a) (ha2 : a < 2147483648) : zi a < 0 ↔ a < 0 := zi_lt (b := 0) ha ha2 (by decide) (by decide)
theorem zi_le0 {a : Int} (ha : -2147483648 ≤ a) (ha2 : a < 2147483648) : zi a ≤ 0 ↔ a ≤ 0 := zi_le (b := 0) ha ha2 (by decide) (by decide)
theorem zi_ge0 {a : Int} (ha : -2147483648 ≤ a) (ha2 : a < 2147483648) : 0 ≤ zi a ↔ a ≥ 0 := zi_ge (b := 0) ha ha2 (by decide) (by decide)
theorem zi_gt0 {a : Int} (ha : -2147483648 ≤ a) (ha2 : a < 2147483648) : 0 < zi a ↔ a > 0 := zi_gt (b := 0) ha ha2 (by decide) (by decide)
theorem zi_nz {b : Int} (hb : -2147483648 ≤ b) (hb2 : b < 2147483648) (h0 : b ≠ 0) : ¬ zi b = 0 := fun h => h0 ((zi_eq0 hb hb2).mp h)
theorem zl_nz {b : Int} (hb : -9223372036854775808 ≤ b) (hb2 : b < 9223372036854775808) (h0 : b ≠ 0) : ¬ zl b = 0 := fun h => h0 (zl_inj (b := 0) hb hb2 (by decide) (by decide) h)
theorem zi_div {a b : Int} (ha : -2147483648 < a) (ha2 : a < 2147483648) (hb : -2147483648 ≤ b) (hb2 : b < 2147483648) : zi a / zi b = zi (a.tdiv b) := (Int32.ofInt_tdiv (show Int32.minValue.toInt ≤ a from by have h : Int32.minValue.toInt = -2147483648 := rfl; omega) (show a ≤ Int32.maxValue.toInt from by have h : Int32.maxValue.toInt = 2147483647 := rfl; omega) (show Int32.minValue.toInt ≤ b from by have h : Int32.minValue.toInt = -2147483648 := rfl; omega) (show b ≤ Int32.maxValue.toInt from by have h : Int32.maxValue.toInt = 2147483647 := rfl; omega)).symm
theorem zl_div {a b : Int} (ha : -9223372036854775808 < a) (ha2 : a < 9223372036854775808) (hb : -9223372036854775808 ≤ b) (hb2 : b < 9223372036854775808) : zl a / zl b = zl (a.tdiv b) := (Int64.ofInt_tdiv (show Int64.minValue.toInt ≤ a from by have h : Int64.minValue.toInt = -9223372036854775808 := rfl; omega) (show a ≤ Int64.maxValue.toInt from by have h : Int64.maxValue.toInt = 9223372036854775807 := rfl; omega) (show Int64.minValue.toInt ≤ b from by have h : Int64.minValue.toInt = -9223372036854775808 := rfl; omega) (show b ≤ Int64.maxValue.toInt from by have h : Int64.maxValue.toInt = 9223372036854775807 := rfl; omega)).symm
theorem tmod_e (a b : Int) : a - a.tdiv b * b = a.tmod b := by
  have h := Int.tdiv_mul_add_tmod a b
  omega
theorem zi_rem {a b : Int} (ha : -2147483648 < a) (ha2 : a < 2147483648) (hb : -2147483648 ≤ b) (hb2 : b < 2147483648) : zi a - zi a / zi b * zi b = zi (a.tmod b) := by
  rw [zi_div ha ha2 hb hb2, ← zi_mul, ← zi_sub, tmod_e]
theorem zl_rem {a b : Int} (ha : -9223372036854775808 < a) (ha2 : a < 9223372036854775808) (hb : -9223372036854775808 ≤ b) (hb2 : b < 9223372036854775808) : zl a - zl a / zl b * zl b = zl (a.tmod b) := by
  rw [zl_div ha ha2 hb hb2, ← zl_mul, ← zl_sub, tmod_e]
def z_iand (a b : Int) : Int := (zi a &&& zi b).toInt
def z_ior (a b : Int) : Int := (zi a ||| zi b).toInt
def z_ixor (a b : Int) : Int := (zi a ^^^ zi b).toInt
def z_ishl (a b : Int) : Int := (zi a <<< (zi b &&& 31)).toInt
def z_ishr (a b : Int) : Int := (zi a >>> (zi b &&& 31)).toInt
def z_iushr (a b : Int) : Int := (((zi a).toUInt32 >>> ((zi b).toUInt32 &&& Int32.toUInt32 31)).toInt32).toInt
def z_i2b (a : Int) : Int := ((zi a).toInt8.toInt32).toInt
def z_land (a b : Int) : Int := (zl a &&& zl b).toInt
def z_lor (a b : Int) : Int := (zl a ||| zl b).toInt
def z_lxor (a b : Int) : Int := (zl a ^^^ zl b).toInt
def z_lshl (a b : Int) : Int := (zl a <<< ((zi b).toInt64 &&& 63)).toInt
def z_lshr (a b : Int) : Int := (zl a >>> ((zi b).toInt64 &&& 63)).toInt
def z_l2f (a : Int) : Int := (FP.f2l (FP.l2f (zl a))).toInt
def z_l2d (a : Int) : Int := (FP.d2l (FP.l2d (zl a))).toInt
theorem zi_iand (a b : Int) : zi (z_iand a b) = zi a &&& zi b := zi_of _
theorem zi_ior (a b : Int) : zi (z_ior a b) = zi a ||| zi b := zi_of _
theorem zi_ixor (a b : Int) : zi (z_ixor a b) = zi a ^^^ zi b := zi_of _
theorem zi_ishl (a b : Int) : zi (z_ishl a b) = zi a <<< (zi b &&& 31) := zi_of _
theorem zi_ishr (a b : Int) : zi (z_ishr a b) = zi a >>> (zi b &&& 31) := zi_of _
theorem zi_iushr (a b : Int) : zi (z_iushr a b) = ((zi a).toUInt32 >>> ((zi b).toUInt32 &&& Int32.toUInt32 31)).toInt32 := zi_of _
theorem zi_i2b (a : Int) : zi (z_i2b a) = (zi a).toInt8.toInt32 := zi_of _
theorem zl_land (a b : Int) : zl (z_land a b) = zl a &&& zl b := zl_of _
theorem zl_lor (a b : Int) : zl (z_lor a b) = zl a ||| zl b := zl_of _
theorem zl_lxor (a b : Int) : zl (z_lxor a b) = zl a ^^^ zl b := zl_of _
theorem zl_lshl (a b : Int) : zl (z_lshl a b) = zl a <<< ((zi b).toInt64 &&& 63) := zl_of _
theorem zl_lshr (a b : Int) : zl (z_lshr a b) = zl a >>> ((zi b).toInt64 &&& 63) := zl_of _
theorem zl_l2f (a : Int) : zl (z_l2f a) = FP.f2l (FP.l2f (zl a)) := zl_of _
theorem zl_l2d (a : Int) : zl (z_l2d a) = FP.d2l (FP.l2d (zl a)) := zl_of _
theorem zi_long {a : Int} (h : -2147483648 ≤ a) (h2 : a < 2147483648) : (zi a).toInt64 = zl a := by
  refine Int64.toInt_inj.mp ?_
  rw [Int32.toInt_toInt64, zi_toInt h h2, zl_toInt (by omega) (by omega)]
theorem zl_int (a : Int) : (zl a).toInt32 = zi a := Int64.toInt32_ofInt
theorem zl_lt {a b : Int} (ha : -9223372036854775808 ≤ a) (ha2 : a < 9223372036854775808) (hb : -9223372036854775808 ≤ b) (hb2 : b < 9223372036854775808) : zl a < zl b ↔ a < b := by
  rw [Int64.lt_iff_toInt_lt, zl_toInt ha ha2, zl_toInt hb hb2]
theorem zl_eq {a b : Int} (ha : -9223372036854775808 ≤ a) (ha2 : a < 9223372036854775808) (hb : -9223372036854775808 ≤ b) (hb2 : b < 9223372036854775808) : zl a = zl b ↔ a = b := ⟨zl_inj ha ha2 hb hb2, fun h => by rw [h]⟩
theorem zl_cmp {a b : Int} (ha : -9223372036854775808 ≤ a) (ha2 : a < 9223372036854775808) (hb : -9223372036854775808 ≤ b) (hb2 : b < 9223372036854775808) : lg_cmp (zl a) (zl b) = zi (if a < b then -1 else if a = b then 0 else 1) := by
  unfold lg_cmp
  have h1 : (zl a > zl b) ↔ b < a := zl_lt hb hb2 ha ha2
  have h2 := zl_eq ha ha2 hb hb2
  by_cases e : b < a
  · rw [if_pos (h1.mpr e), if_neg (by omega), if_neg (by omega)]
    rfl
  · rw [if_neg (fun q => e (h1.mp q))]
    by_cases e2 : a = b
    · rw [if_pos (h2.mpr e2), if_neg (by omega), if_pos e2]
      rfl
    · rw [if_neg (fun q => e2 (h2.mp q)), if_pos (by omega)]
      rfl
theorem qv_c1 (G : QW) {v : Vl} (h : v.1 ≠ 1) : (qv G v).category = 1 := by
  have h2 := qv_cat G v
  rw [beq_eq_false_iff_ne.mpr h] at h2
  rcases lv_cat (qv G v) with e | e
  · exact e
  · rw [e] at h2; cases h2
section QC
variable {G : QW} {md : MD} {p : Program} {s : State} {mm : MethodId} {args : Array Value} {meth : Method} {c : Code}
theorem qC.x (C : qC G md p s mm args meth c) : p.tables.exec = Jvm.exec := C.1
theorem qC.b (C : qC G md p s mm args meth c) : c.code = md.b := C.2.1
theorem qC.n (C : qC G md p s mm args meth c) : c.maxLocals = md.n := C.2.2.1
theorem qC.o (C : qC G md p s mm args meth c) : s.vm.findClass md.y.cls = some mm.cls := C.2.2.2.1
theorem qC.t (C : qC G md p s mm args meth c) : ∀ w ∈ tb, w.before args s = true := C.2.2.2.2.1
theorem qC.r (C : qC G md p s mm args meth c) : meth.sig.returnType = md.r := C.2.2.2.2.2.1
theorem qC.k (C : qC G md p s mm args meth c) : meth.locks = false := C.2.2.2.2.2.2.1
theorem qC.nm (C : qC G md p s mm args meth c) : meth.name = md.y.name := C.2.2.2.2.2.2.2.1
theorem qC.T (C : qC G md p s mm args meth c) : QT G s := C.2.2.2.2.2.2.2.2.1
theorem qC.hs (C : qC G md p s mm args meth c) : G.HB.size ≤ s.heap.size := C.2.2.2.2.2.2.2.2.2.1
theorem qC.d (C : qC G md p s mm args meth c) : qDec md := C.2.2.2.2.2.2.2.2.2.2.1
theorem qC.h (C : qC G md p s mm args meth c) : ∀ q : Nat, q < G.HB.size → s.heap[q]? = G.HB[q]? := C.2.2.2.2.2.2.2.2.2.2.2
end QC

section QJR
variable {G : QW} {md : MD} {R : Room} {F : QFin} {pc : Nat} {ls : List (Nat × Vl)} {st : List Vl} {m : AM} {cc cs : Nat}
theorem j_iconst {n : Int} (hd : qlk md.c pc = some (.iconst n, 1)) (k : qJ G md R F (pc + 1) (ls) (vI n :: st) (m) (cc) (cs)) : qJ G md R F (pc) (ls) (st) (m) (cc) (cs) := by
  intro p e s mm args below meth c C H locs lsc hH hz hS hl
  exact lv_iconst C.x C.b (C.d.at hd) rfl (k p e s mm args below meth c C H locs lsc hH hz hS hl)
theorem j_bipush {n : Int} (hd : qlk md.c pc = some (.bipush n, 2)) (hn : (Int8.ofInt n).toInt32 = zi n) (k : qJ G md R F (pc + 2) (ls) (vI n :: st) (m) (cc) (cs)) : qJ G md R F (pc) (ls) (st) (m) (cc) (cs) := by
  intro p e s mm args below meth c C H locs lsc hH hz hS hl
  exact lv_bipush C.x C.b (C.d.at hd) hn (k p e s mm args below meth c C H locs lsc hH hz hS hl)
theorem j_sipush {n : Int} (hd : qlk md.c pc = some (.sipush n, 3)) (hn : (Int16.ofInt n).toInt32 = zi n) (k : qJ G md R F (pc + 3) (ls) (vI n :: st) (m) (cc) (cs)) : qJ G md R F (pc) (ls) (st) (m) (cc) (cs) := by
  intro p e s mm args below meth c C H locs lsc hH hz hS hl
  exact lv_sipush C.x C.b (C.d.at hd) hn (k p e s mm args below meth c C H locs lsc hH hz hS hl)
theorem j_lconst {n : Fin 2} {v : Int} (hd : qlk md.c pc = some (.lconst n, 1)) (hn : Int64.ofNat (n : Nat) = zl v) (k : qJ G md R F (pc + 1) (ls) (vL v :: st) (m) (cc) (cs)) : qJ G md R F (pc) (ls) (st) (m) (cc) (cs) := by
  intro p e s mm args below meth c C H locs lsc hH hz hS hl
  exact lv_lconst C.x C.b (C.d.at hd) hn (k p e s mm args below meth c C H locs lsc hH hz hS hl)
theorem j_ldc {i : Nat} {v : Int} (hd : qlk md.c pc = some (.ldc i, 2)) (hw : Cond.constant md.y.cls i (zi v) ∈ tb) (k : qJ G md R F (pc + 2) (ls) (vI v :: st) (m) (cc) (cs)) : qJ G md R F (pc) (ls) (st) (m) (cc) (cs) := by
  intro p e s mm args below meth c C H locs lsc hH hz hS hl
  exact lv_ldc C.x C.b C.o (C.t _ hw) (C.d.at hd) (k p e s mm args below meth c C H locs lsc hH hz hS hl)
theorem j_ldcw {i : Nat} {v : Int} (hd : qlk md.c pc = some (.ldc_w i, 3)) (hw : Cond.constant md.y.cls i (zi v) ∈ tb) (k : qJ G md R F (pc + 3) (ls) (vI v :: st) (m) (cc) (cs)) : qJ G md R F (pc) (ls) (st) (m) (cc) (cs) := by
  intro p e s mm args below meth c C H locs lsc hH hz hS hl
  exact lv_ldcw C.x C.b C.o (C.t _ hw) (C.d.at hd) (k p e s mm args below meth c C H locs lsc hH hz hS hl)
theorem j_ldc2 {i : Nat} {v : Int} (hd : qlk md.c pc = some (.ldc2_w i, 3)) (hw : Cond.constantLong md.y.cls i (zl v) ∈ tb) (k : qJ G md R F (pc + 3) (ls) (vL v :: st) (m) (cc) (cs)) : qJ G md R F (pc) (ls) (st) (m) (cc) (cs) := by
  intro p e s mm args below meth c C H locs lsc hH hz hS hl
  exact lv_ldc2 C.x C.b C.o (C.t _ hw) (C.d.at hd) (k p e s mm args below meth c C H locs lsc hH hz hS hl)
theorem j_iload {i : Nat} {a : Int} (hd : qlk md.c pc = some (.iload i, 2)) (h : llk ls i = some (vI a)) (k : qJ G md R F (pc + 2) (ls) (vI a :: st) (m) (cc) (cs)) : qJ G md R F (pc) (ls) (st) (m) (cc) (cs) := by
  intro p e s mm args below meth c C H locs lsc hH hz hS hl
  exact lv_iload C.x C.b (C.d.at hd) (lmap_at hl h) (k p e s mm args below meth c C H locs lsc hH hz hS hl)
theorem j_iload_n {i : Fin 4} {a : Int} (hd : qlk md.c pc = some (.iload_n i, 1)) (h : llk ls (i : Nat) = some (vI a)) (k : qJ G md R F (pc + 1) (ls) (vI a :: st) (m) (cc) (cs)) : qJ G md R F (pc) (ls) (st) (m) (cc) (cs) := by
  intro p e s mm args below meth c C H locs lsc hH hz hS hl
  exact lv_iload_n C.x C.b (C.d.at hd) rfl (lmap_at hl h) (k p e s mm args below meth c C H locs lsc hH hz hS hl)
theorem j_lload {i : Nat} {a : Int} (hd : qlk md.c pc = some (.lload i, 2)) (h : llk ls i = some (vL a)) (k : qJ G md R F (pc + 2) (ls) (vL a :: st) (m) (cc) (cs)) : qJ G md R F (pc) (ls) (st) (m) (cc) (cs) := by
  intro p e s mm args below meth c C H locs lsc hH hz hS hl
  exact lv_lload C.x C.b (C.d.at hd) (lmap_at hl h) (k p e s mm args below meth c C H locs lsc hH hz hS hl)
theorem j_lload_n {i : Fin 4} {a : Int} (hd : qlk md.c pc = some (.lload_n i, 1)) (h : llk ls (i : Nat) = some (vL a)) (k : qJ G md R F (pc + 1) (ls) (vL a :: st) (m) (cc) (cs)) : qJ G md R F (pc) (ls) (st) (m) (cc) (cs) := by
  intro p e s mm args below meth c C H locs lsc hH hz hS hl
  exact lv_lload_n C.x C.b (C.d.at hd) rfl (lmap_at hl h) (k p e s mm args below meth c C H locs lsc hH hz hS hl)
theorem j_aload {i o : Nat} (hd : qlk md.c pc = some (.aload i, 2)) (h : llk ls i = some (vR o)) (k : qJ G md R F (pc + 2) (ls) (vR o :: st) (m) (cc) (cs)) : qJ G md R F (pc) (ls) (st) (m) (cc) (cs) := by
  intro p e s mm args below meth c C H locs lsc hH hz hS hl
  exact lv_aload C.x C.b (C.d.at hd) (lmap_at hl h) (k p e s mm args below meth c C H locs lsc hH hz hS hl)
theorem j_aload_n {i : Fin 4} {o : Nat} (hd : qlk md.c pc = some (.aload_n i, 1)) (h : llk ls (i : Nat) = some (vR o)) (k : qJ G md R F (pc + 1) (ls) (vR o :: st) (m) (cc) (cs)) : qJ G md R F (pc) (ls) (st) (m) (cc) (cs) := by
  intro p e s mm args below meth c C H locs lsc hH hz hS hl
  exact lv_aload_n C.x C.b (C.d.at hd) rfl (lmap_at hl h) (k p e s mm args below meth c C H locs lsc hH hz hS hl)
theorem j_aloadO {i o : Nat} (hd : qlk md.c pc = some (.aload i, 2)) (h : llk ls i = some (vO o)) (k : qJ G md R F (pc + 2) (ls) (vO o :: st) (m) (cc) (cs)) : qJ G md R F (pc) (ls) (st) (m) (cc) (cs) := by
  intro p e s mm args below meth c C H locs lsc hH hz hS hl
  exact lv_aload C.x C.b (C.d.at hd) (lmap_at hl h) (k p e s mm args below meth c C H locs lsc hH hz hS hl)
theorem j_aload_nO {i : Fin 4} {o : Nat} (hd : qlk md.c pc = some (.aload_n i, 1)) (h : llk ls (i : Nat) = some (vO o)) (k : qJ G md R F (pc + 1) (ls) (vO o :: st) (m) (cc) (cs)) : qJ G md R F (pc) (ls) (st) (m) (cc) (cs) := by
  intro p e s mm args below meth c C H locs lsc hH hz hS hl
  exact lv_aload_n C.x C.b (C.d.at hd) rfl (lmap_at hl h) (k p e s mm args below meth c C H locs lsc hH hz hS hl)
theorem j_istore {i : Nat} {a : Int} (hd : qlk md.c pc = some (.istore i, 2)) (hn : i < md.n) (k : qJ G md R F (pc + 2) (lset ls i (vI a)) (st) (m) (cc) (cs)) : qJ G md R F (pc) (ls) (vI a :: st) (m) (cc) (cs) := by
  intro p e s mm args below meth c C H locs lsc hH hz hS hl
  exact lv_istore C.x C.b (C.d.at hd) hl hn (lmap_set G ls i (vI a)) (fun lsc hl => k p e s mm args below meth c C H locs lsc hH hz hS hl)
theorem j_istore_n {i : Fin 4} {a : Int} (hd : qlk md.c pc = some (.istore_n i, 1)) (hn : (i : Nat) < md.n) (k : qJ G md R F (pc + 1) (lset ls (i : Nat) (vI a)) (st) (m) (cc) (cs)) : qJ G md R F (pc) (ls) (vI a :: st) (m) (cc) (cs) := by
  intro p e s mm args below meth c C H locs lsc hH hz hS hl
  exact lv_istore_n C.x C.b (C.d.at hd) rfl hl hn (lmap_set G ls (i : Nat) (vI a)) (fun lsc hl => k p e s mm args below meth c C H locs lsc hH hz hS hl)
theorem j_astore {i : Nat} {a : Nat} (hd : qlk md.c pc = some (.astore i, 2)) (hn : i < md.n) (k : qJ G md R F (pc + 2) (lset ls i (vR a)) (st) (m) (cc) (cs)) : qJ G md R F (pc) (ls) (vR a :: st) (m) (cc) (cs) := by
  intro p e s mm args below meth c C H locs lsc hH hz hS hl
  exact lv_astore C.x C.b (C.d.at hd) hl hn (lmap_set G ls i (vR a)) (fun lsc hl => k p e s mm args below meth c C H locs lsc hH hz hS hl)
theorem j_astore_n {i : Fin 4} {a : Nat} (hd : qlk md.c pc = some (.astore_n i, 1)) (hn : (i : Nat) < md.n) (k : qJ G md R F (pc + 1) (lset ls (i : Nat) (vR a)) (st) (m) (cc) (cs)) : qJ G md R F (pc) (ls) (vR a :: st) (m) (cc) (cs) := by
  intro p e s mm args below meth c C H locs lsc hH hz hS hl
  exact lv_astore_n C.x C.b (C.d.at hd) rfl hl hn (lmap_set G ls (i : Nat) (vR a)) (fun lsc hl => k p e s mm args below meth c C H locs lsc hH hz hS hl)
theorem j_lstore {i : Nat} {a : Int} (hd : qlk md.c pc = some (.lstore i, 2)) (hn : i + 1 < md.n) (k : qJ G md R F (pc + 2) (lset2 ls i (vL a)) (st) (m) (cc) (cs)) : qJ G md R F (pc) (ls) (vL a :: st) (m) (cc) (cs) := by
  intro p e s mm args below meth c C H locs lsc hH hz hS hl
  exact lv_lstore C.x C.b (C.d.at hd) hl hn (lmap_set2 G ls i (vL a)) (fun lsc hl => k p e s mm args below meth c C H locs lsc hH hz hS hl)
theorem j_lstore_n {i : Fin 4} {a : Int} (hd : qlk md.c pc = some (.lstore_n i, 1)) (hn : (i : Nat) + 1 < md.n) (k : qJ G md R F (pc + 1) (lset2 ls (i : Nat) (vL a)) (st) (m) (cc) (cs)) : qJ G md R F (pc) (ls) (vL a :: st) (m) (cc) (cs) := by
  intro p e s mm args below meth c C H locs lsc hH hz hS hl
  exact lv_lstore_n C.x C.b (C.d.at hd) rfl hl hn (lmap_set2 G ls (i : Nat) (vL a)) (fun lsc hl => k p e s mm args below meth c C H locs lsc hH hz hS hl)
theorem j_iinc {i : Nat} {n a : Int} (hd : qlk md.c pc = some (.iinc i n, 3)) (h : llk ls i = some (vI a)) (hn : i < md.n) (k : qJ G md R F (pc + 3) (lset ls i (vI (a + n))) (st) (m) (cc) (cs)) : qJ G md R F (pc) (ls) (st) (m) (cc) (cs) := by
  intro p e s mm args below meth c C H locs lsc hH hz hS hl
  obtain ⟨q, hq⟩ := List.getElem?_of_mem (llk_mem h)
  have hq2 : (lmap G ls)[q]? = some (i, .int (zi a)) := by unfold lmap; rw [List.getElem?_map, hq]; rfl
  exact lv_iinc (v := zi (a + n)) C.x C.b (C.d.at hd) hl hq2 (zi_add a n).symm hn (lmap_set G ls i (vI (a + n))) (fun lsc hl => k p e s mm args below meth c C H locs lsc hH hz hS hl)
theorem j_iadd {a b : Int} (hd : qlk md.c pc = some (.iadd, 1)) (k : qJ G md R F (pc + 1) (ls) (vI (a + b) :: st) (m) (cc) (cs)) : qJ G md R F (pc) (ls) (vI b :: vI a :: st) (m) (cc) (cs) := by
  intro p e s mm args below meth c C H locs lsc hH hz hS hl
  refine lv_iadd C.x C.b (C.d.at hd) ?_
  rw [← zi_add]
  exact k p e s mm args below meth c C H locs lsc hH hz hS hl
theorem j_isub {a b : Int} (hd : qlk md.c pc = some (.isub, 1)) (k : qJ G md R F (pc + 1) (ls) (vI (a - b) :: st) (m) (cc) (cs)) : qJ G md R F (pc) (ls) (vI b :: vI a :: st) (m) (cc) (cs) := by
  intro p e s mm args below meth c C H locs lsc hH hz hS hl
  refine lv_isub C.x C.b (C.d.at hd) ?_
  rw [← zi_sub]
  exact k p e s mm args below meth c C H locs lsc hH hz hS hl
theorem j_imul {a b : Int} (hd : qlk md.c pc = some (.imul, 1)) (k : qJ G md R F (pc + 1) (ls) (vI (a * b) :: st) (m) (cc) (cs)) : qJ G md R F (pc) (ls) (vI b :: vI a :: st) (m) (cc) (cs) := by
  intro p e s mm args below meth c C H locs lsc hH hz hS hl
  refine lv_imul C.x C.b (C.d.at hd) ?_
  rw [← zi_mul]
  exact k p e s mm args below meth c C H locs lsc hH hz hS hl
theorem j_ladd {a b : Int} (hd : qlk md.c pc = some (.ladd, 1)) (k : qJ G md R F (pc + 1) (ls) (vL (a + b) :: st) (m) (cc) (cs)) : qJ G md R F (pc) (ls) (vL b :: vL a :: st) (m) (cc) (cs) := by
  intro p e s mm args below meth c C H locs lsc hH hz hS hl
  refine lv_ladd C.x C.b (C.d.at hd) ?_
  rw [← zl_add]
  exact k p e s mm args below meth c C H locs lsc hH hz hS hl
theorem j_lsub {a b : Int} (hd : qlk md.c pc = some (.lsub, 1)) (k : qJ G md R F (pc + 1) (ls) (vL (a - b) :: st) (m) (cc) (cs)) : qJ G md R F (pc) (ls) (vL b :: vL a :: st) (m) (cc) (cs) := by
  intro p e s mm args below meth c C H locs lsc hH hz hS hl
  refine lv_lsub C.x C.b (C.d.at hd) ?_
  rw [← zl_sub]
  exact k p e s mm args below meth c C H locs lsc hH hz hS hl
theorem j_lmul {a b : Int} (hd : qlk md.c pc = some (.lmul, 1)) (k : qJ G md R F (pc + 1) (ls) (vL (a * b) :: st) (m) (cc) (cs)) : qJ G md R F (pc) (ls) (vL b :: vL a :: st) (m) (cc) (cs) := by
  intro p e s mm args below meth c C H locs lsc hH hz hS hl
  refine lv_lmul C.x C.b (C.d.at hd) ?_
  rw [← zl_mul]
  exact k p e s mm args below meth c C H locs lsc hH hz hS hl
theorem j_ineg {a : Int} (hd : qlk md.c pc = some (.ineg, 1)) (k : qJ G md R F (pc + 1) (ls) (vI (-a) :: st) (m) (cc) (cs)) : qJ G md R F (pc) (ls) (vI a :: st) (m) (cc) (cs) := by
  intro p e s mm args below meth c C H locs lsc hH hz hS hl
  refine lv_ineg C.x C.b (C.d.at hd) ?_
  rw [← zi_neg]
  exact k p e s mm args below meth c C H locs lsc hH hz hS hl
theorem j_lneg {a : Int} (hd : qlk md.c pc = some (.lneg, 1)) (k : qJ G md R F (pc + 1) (ls) (vL (-a) :: st) (m) (cc) (cs)) : qJ G md R F (pc) (ls) (vL a :: st) (m) (cc) (cs) := by
  intro p e s mm args below meth c C H locs lsc hH hz hS hl
  refine lv_lneg C.x C.b (C.d.at hd) ?_
  rw [← zl_neg]
  exact k p e s mm args below meth c C H locs lsc hH hz hS hl
theorem j_idiv {a b : Int} (hd : qlk md.c pc = some (.idiv, 1)) (ha : -2147483648 < a) (ha2 : a < 2147483648) (hb : -2147483648 ≤ b) (hb2 : b < 2147483648) (h0 : b ≠ 0) (k : qJ G md R F (pc + 1) (ls) (vI (a.tdiv b) :: st) (m) (cc) (cs)) : qJ G md R F (pc) (ls) (vI b :: vI a :: st) (m) (cc) (cs) := by
  intro p e s mm args below meth c C H locs lsc hH hz hS hl
  refine lv_idiv C.x C.b (C.d.at hd) (zi_nz hb hb2 h0) ?_
  rw [zi_div ha ha2 hb hb2]
  exact k p e s mm args below meth c C H locs lsc hH hz hS hl
theorem j_irem {a b : Int} (hd : qlk md.c pc = some (.irem, 1)) (ha : -2147483648 < a) (ha2 : a < 2147483648) (hb : -2147483648 ≤ b) (hb2 : b < 2147483648) (h0 : b ≠ 0) (k : qJ G md R F (pc + 1) (ls) (vI (a.tmod b) :: st) (m) (cc) (cs)) : qJ G md R F (pc) (ls) (vI b :: vI a :: st) (m) (cc) (cs) := by
  intro p e s mm args below meth c C H locs lsc hH hz hS hl
  refine lv_irem C.x C.b (C.d.at hd) (zi_nz hb hb2 h0) ?_
  rw [zi_rem ha ha2 hb hb2]
  exact k p e s mm args below meth c C H locs lsc hH hz hS hl
theorem j_ldiv {a b : Int} (hd : qlk md.c pc = some (.ldiv, 1)) (ha : -9223372036854775808 < a) (ha2 : a < 9223372036854775808) (hb : -9223372036854775808 ≤ b) (hb2 : b < 9223372036854775808) (h0 : b ≠ 0) (k : qJ G md R F (pc + 1) (ls) (vL (a.tdiv b) :: st) (m) (cc) (cs)) : qJ G md R F (pc) (ls) (vL b :: vL a :: st) (m) (cc) (cs) := by
  intro p e s mm args below meth c C H locs lsc hH hz hS hl
  refine lv_ldiv C.x C.b (C.d.at hd) (zl_nz hb hb2 h0) ?_
  rw [zl_div ha ha2 hb hb2]
  exact k p e s mm args below meth c C H locs lsc hH hz hS hl
theorem j_lrem {a b : Int} (hd : qlk md.c pc = some (.lrem, 1)) (ha : -9223372036854775808 < a) (ha2 : a < 9223372036854775808) (hb : -9223372036854775808 ≤ b) (hb2 : b < 9223372036854775808) (h0 : b ≠ 0) (k : qJ G md R F (pc + 1) (ls) (vL (a.tmod b) :: st) (m) (cc) (cs)) : qJ G md R F (pc) (ls) (vL b :: vL a :: st) (m) (cc) (cs) := by
  intro p e s mm args below meth c C H locs lsc hH hz hS hl
  refine lv_lrem C.x C.b (C.d.at hd) (zl_nz hb hb2 h0) ?_
  rw [zl_rem ha ha2 hb hb2]
  exact k p e s mm args below meth c C H locs lsc hH hz hS hl
theorem j_iand {a b : Int} (hd : qlk md.c pc = some (.iand, 1)) (k : qJ G md R F (pc + 1) (ls) (vI (z_iand a b) :: st) (m) (cc) (cs)) : qJ G md R F (pc) (ls) (vI b :: vI a :: st) (m) (cc) (cs) := by
  intro p e s mm args below meth c C H locs lsc hH hz hS hl
  refine lv_iand C.x C.b (C.d.at hd) ?_
  rw [← zi_iand]
  exact k p e s mm args below meth c C H locs lsc hH hz hS hl
theorem j_ior {a b : Int} (hd : qlk md.c pc = some (.ior, 1)) (k : qJ G md R F (pc + 1) (ls) (vI (z_ior a b) :: st) (m) (cc) (cs)) : qJ G md R F (pc) (ls) (vI b :: vI a :: st) (m) (cc) (cs) := by
  intro p e s mm args below meth c C H locs lsc hH hz hS hl
  refine lv_ior C.x C.b (C.d.at hd) ?_
  rw [← zi_ior]
  exact k p e s mm args below meth c C H locs lsc hH hz hS hl
theorem j_ixor {a b : Int} (hd : qlk md.c pc = some (.ixor, 1)) (k : qJ G md R F (pc + 1) (ls) (vI (z_ixor a b) :: st) (m) (cc) (cs)) : qJ G md R F (pc) (ls) (vI b :: vI a :: st) (m) (cc) (cs) := by
  intro p e s mm args below meth c C H locs lsc hH hz hS hl
  refine lv_ixor C.x C.b (C.d.at hd) ?_
  rw [← zi_ixor]
  exact k p e s mm args below meth c C H locs lsc hH hz hS hl
theorem j_ishl {a b : Int} (hd : qlk md.c pc = some (.ishl, 1)) (k : qJ G md R F (pc + 1) (ls) (vI (z_ishl a b) :: st) (m) (cc) (cs)) : qJ G md R F (pc) (ls) (vI b :: vI a :: st) (m) (cc) (cs) := by
  intro p e s mm args below meth c C H locs lsc hH hz hS hl
  refine lv_ishl C.x C.b (C.d.at hd) ?_
  rw [← zi_ishl]
  exact k p e s mm args below meth c C H locs lsc hH hz hS hl
theorem j_ishr {a b : Int} (hd : qlk md.c pc = some (.ishr, 1)) (k : qJ G md R F (pc + 1) (ls) (vI (z_ishr a b) :: st) (m) (cc) (cs)) : qJ G md R F (pc) (ls) (vI b :: vI a :: st) (m) (cc) (cs) := by
  intro p e s mm args below meth c C H locs lsc hH hz hS hl
  refine lv_ishr C.x C.b (C.d.at hd) ?_
  rw [← zi_ishr]
  exact k p e s mm args below meth c C H locs lsc hH hz hS hl
theorem j_iushr {a b : Int} (hd : qlk md.c pc = some (.iushr, 1)) (k : qJ G md R F (pc + 1) (ls) (vI (z_iushr a b) :: st) (m) (cc) (cs)) : qJ G md R F (pc) (ls) (vI b :: vI a :: st) (m) (cc) (cs) := by
  intro p e s mm args below meth c C H locs lsc hH hz hS hl
  exact lv_iushr C.x C.b (C.d.at hd) (zi_iushr a b).symm (k p e s mm args below meth c C H locs lsc hH hz hS hl)
theorem j_i2l {a : Int} (hd : qlk md.c pc = some (.i2l, 1)) (ha : -2147483648 ≤ a) (ha2 : a < 2147483648) (k : qJ G md R F (pc + 1) (ls) (vL a :: st) (m) (cc) (cs)) : qJ G md R F (pc) (ls) (vI a :: st) (m) (cc) (cs) := by
  intro p e s mm args below meth c C H locs lsc hH hz hS hl
  exact lv_i2l C.x C.b (C.d.at hd) (zi_long ha ha2) (k p e s mm args below meth c C H locs lsc hH hz hS hl)
theorem j_l2i {a : Int} (hd : qlk md.c pc = some (.l2i, 1)) (k : qJ G md R F (pc + 1) (ls) (vI a :: st) (m) (cc) (cs)) : qJ G md R F (pc) (ls) (vL a :: st) (m) (cc) (cs) := by
  intro p e s mm args below meth c C H locs lsc hH hz hS hl
  exact lv_l2i C.x C.b (C.d.at hd) (zl_int a) (k p e s mm args below meth c C H locs lsc hH hz hS hl)
theorem j_i2b {a : Int} (hd : qlk md.c pc = some (.i2b, 1)) (k : qJ G md R F (pc + 1) (ls) (vI (z_i2b a) :: st) (m) (cc) (cs)) : qJ G md R F (pc) (ls) (vI a :: st) (m) (cc) (cs) := by
  intro p e s mm args below meth c C H locs lsc hH hz hS hl
  exact lv_i2b C.x C.b (C.d.at hd) (zi_i2b a).symm (k p e s mm args below meth c C H locs lsc hH hz hS hl)
theorem j_lcmp {a b : Int} (hd : qlk md.c pc = some (.lcmp, 1)) (ha : -9223372036854775808 ≤ a) (ha2 : a < 9223372036854775808) (hb : -9223372036854775808 ≤ b) (hb2 : b < 9223372036854775808) (k : qJ G md R F (pc + 1) (ls) (vI (if a < b then -1 else if a = b then 0 else 1) :: st) (m) (cc) (cs)) : qJ G md R F (pc) (ls) (vL b :: vL a :: st) (m) (cc) (cs) := by
  intro p e s mm args below meth c C H locs lsc hH hz hS hl
  refine W.lcmp C.x C.b (C.d.at hd) ?_
  rw [zl_cmp ha ha2 hb hb2]
  exact k p e s mm args below meth c C H locs lsc hH hz hS hl
theorem j_land {a b : Int} (hd : qlk md.c pc = some (.land, 1)) (k : qJ G md R F (pc + 1) (ls) (vL (z_land a b) :: st) (m) (cc) (cs)) : qJ G md R F (pc) (ls) (vL b :: vL a :: st) (m) (cc) (cs) := by
  intro p e s mm args below meth c C H locs lsc hH hz hS hl
  refine lv_land C.x C.b (C.d.at hd) ?_
  rw [← zl_land]
  exact k p e s mm args below meth c C H locs lsc hH hz hS hl
theorem j_lor {a b : Int} (hd : qlk md.c pc = some (.lor, 1)) (k : qJ G md R F (pc + 1) (ls) (vL (z_lor a b) :: st) (m) (cc) (cs)) : qJ G md R F (pc) (ls) (vL b :: vL a :: st) (m) (cc) (cs) := by
  intro p e s mm args below meth c C H locs lsc hH hz hS hl
  refine lv_lor C.x C.b (C.d.at hd) ?_
  rw [← zl_lor]
  exact k p e s mm args below meth c C H locs lsc hH hz hS hl
theorem j_lxor {a b : Int} (hd : qlk md.c pc = some (.lxor, 1)) (k : qJ G md R F (pc + 1) (ls) (vL (z_lxor a b) :: st) (m) (cc) (cs)) : qJ G md R F (pc) (ls) (vL b :: vL a :: st) (m) (cc) (cs) := by
  intro p e s mm args below meth c C H locs lsc hH hz hS hl
  refine lv_lxor C.x C.b (C.d.at hd) ?_
  rw [← zl_lxor]
  exact k p e s mm args below meth c C H locs lsc hH hz hS hl
theorem j_lshl {a b : Int} (hd : qlk md.c pc = some (.lshl, 1)) (k : qJ G md R F (pc + 1) (ls) (vL (z_lshl a b) :: st) (m) (cc) (cs)) : qJ G md R F (pc) (ls) (vI b :: vL a :: st) (m) (cc) (cs) := by
  intro p e s mm args below meth c C H locs lsc hH hz hS hl
  exact lv_lshl C.x C.b (C.d.at hd) (zl_lshl a b).symm (k p e s mm args below meth c C H locs lsc hH hz hS hl)
theorem j_lshr {a b : Int} (hd : qlk md.c pc = some (.lshr, 1)) (k : qJ G md R F (pc + 1) (ls) (vL (z_lshr a b) :: st) (m) (cc) (cs)) : qJ G md R F (pc) (ls) (vI b :: vL a :: st) (m) (cc) (cs) := by
  intro p e s mm args below meth c C H locs lsc hH hz hS hl
  exact lv_lshr C.x C.b (C.d.at hd) (zl_lshr a b).symm (k p e s mm args below meth c C H locs lsc hH hz hS hl)
theorem j_l2f {a : Int} (hd : qlk md.c pc = some (.l2f, 1)) (hd2 : qlk md.c (pc + 1) = some (.f2l, 1)) (k : qJ G md R F (pc + 1 + 1) (ls) (vL (z_l2f a) :: st) (m) (cc) (cs)) : qJ G md R F (pc) (ls) (vL a :: st) (m) (cc) (cs) := by
  intro p e s mm args below meth c C H locs lsc hH hz hS hl
  refine lv_l2f C.x C.b (C.d.at hd) ?_
  refine lv_f2l C.x C.b (C.d.at hd2) ?_
  rw [← zl_l2f]
  exact k p e s mm args below meth c C H locs lsc hH hz hS hl
theorem j_l2d {a : Int} (hd : qlk md.c pc = some (.l2d, 1)) (hd2 : qlk md.c (pc + 1) = some (.d2l, 1)) (k : qJ G md R F (pc + 1 + 1) (ls) (vL (z_l2d a) :: st) (m) (cc) (cs)) : qJ G md R F (pc) (ls) (vL a :: st) (m) (cc) (cs) := by
  intro p e s mm args below meth c C H locs lsc hH hz hS hl
  refine lv_l2d C.x C.b (C.d.at hd) ?_
  refine lv_d2l C.x C.b (C.d.at hd2) ?_
  rw [← zl_l2d]
  exact k p e s mm args below meth c C H locs lsc hH hz hS hl
theorem j_dup {v : Vl} (hd : qlk md.c pc = some (.dup, 1)) (hv : v.1 ≠ 1) (k : qJ G md R F (pc + 1) (ls) (v :: v :: st) (m) (cc) (cs)) : qJ G md R F (pc) (ls) (v :: st) (m) (cc) (cs) := by
  intro p e s mm args below meth c C H locs lsc hH hz hS hl
  exact lv_dup C.x C.b (C.d.at hd) (qv_c1 G hv) (k p e s mm args below meth c C H locs lsc hH hz hS hl)
theorem j_pop {v : Vl} (hd : qlk md.c pc = some (.pop, 1)) (hv : v.1 ≠ 1) (k : qJ G md R F (pc + 1) (ls) (st) (m) (cc) (cs)) : qJ G md R F (pc) (ls) (v :: st) (m) (cc) (cs) := by
  intro p e s mm args below meth c C H locs lsc hH hz hS hl
  exact lv_pop C.x C.b (C.d.at hd) (qv_c1 G hv) (k p e s mm args below meth c C H locs lsc hH hz hS hl)
theorem j_dup_x1 {v w : Vl} (hd : qlk md.c pc = some (.dup_x1, 1)) (hv : v.1 ≠ 1) (hw : w.1 ≠ 1) (k : qJ G md R F (pc + 1) (ls) (v :: w :: v :: st) (m) (cc) (cs)) : qJ G md R F (pc) (ls) (v :: w :: st) (m) (cc) (cs) := by
  intro p e s mm args below meth c C H locs lsc hH hz hS hl
  exact lv_dup_x1 C.x C.b (C.d.at hd) (qv_c1 G hv) (qv_c1 G hw) (k p e s mm args below meth c C H locs lsc hH hz hS hl)
theorem j_dup2 {v w : Vl} (hd : qlk md.c pc = some (.dup2, 1)) (hv : v.1 ≠ 1) (hw : w.1 ≠ 1) (k : qJ G md R F (pc + 1) (ls) (v :: w :: v :: w :: st) (m) (cc) (cs)) : qJ G md R F (pc) (ls) (v :: w :: st) (m) (cc) (cs) := by
  intro p e s mm args below meth c C H locs lsc hH hz hS hl
  exact lv_dup2_11 C.x C.b (C.d.at hd) (qv_c1 G hv) (qv_c1 G hw) (k p e s mm args below meth c C H locs lsc hH hz hS hl)
theorem j_goto {off : Int} {tgt : Nat} (hd : qlk md.c pc = some (.goto off, 3)) (ht : (pc : Int) + off = (tgt : Int)) (k : qJ G md R F (tgt) (ls) (st) (m) (cc) (cs)) : qJ G md R F (pc) (ls) (st) (m) (cc) (cs) := by
  intro p e s mm args below meth c C H locs lsc hH hz hS hl
  exact lv_goto C.x C.b (C.d.at hd) ht (k p e s mm args below meth c C H locs lsc hH hz hS hl)
theorem j_if_eq {a : Int} {off : Int} {tgt : Nat} (hd : qlk md.c pc = some (.ifCond .eq off, 3)) (ht : (pc : Int) + off = (tgt : Int)) (ha : -2147483648 ≤ a) (ha2 : a < 2147483648) (kt : a = 0 → qJ G md R F (tgt) (ls) (st) (m) (cc) (cs)) (kf : ¬ a = 0 → qJ G md R F (pc + 3) (ls) (st) (m) (cc) (cs)) : qJ G md R F (pc) (ls) (vI a :: st) (m) (cc) (cs) := by
  intro p e s mm args below meth c C H locs lsc hH hz hS hl
  exact lv_if_eq C.x C.b (C.d.at hd) ht (fun q => kt (zi_eq0 ha ha2 |>.mp q) p e s mm args below meth c C H locs lsc hH hz hS hl) (fun q => kf (fun q2 => q (zi_eq0 ha ha2 |>.mpr q2)) p e s mm args below meth c C H locs lsc hH hz hS hl)
theorem j_icmp_eq {a b : Int} {off : Int} {tgt : Nat} (hd : qlk md.c pc = some (.if_icmp .eq off, 3)) (ht : (pc : Int) + off = (tgt : Int)) (ha : -2147483648 ≤ a) (ha2 : a < 2147483648) (hb : -2147483648 ≤ b) (hb2 : b < 2147483648) (kt : a = b → qJ G md R F (tgt) (ls) (st) (m) (cc) (cs)) (kf : ¬ a = b → qJ G md R F (pc + 3) (ls) (st) (m) (cc) (cs)) : qJ G md R F (pc) (ls) (vI b :: vI a :: st) (m) (cc) (cs) := by
  intro p e s mm args below meth c C H locs lsc hH hz hS hl
  exact lv_icmp_eq C.x C.b (C.d.at hd) ht (fun q => kt (zi_eq ha ha2 hb hb2 |>.mp q) p e s mm args below meth c C H locs lsc hH hz hS hl) (fun q => kf (fun q2 => q (zi_eq ha ha2 hb hb2 |>.mpr q2)) p e s mm args below meth c C H locs lsc hH hz hS hl)
theorem j_if_ne {a : Int} {off : Int} {tgt : Nat} (hd : qlk md.c pc = some (.ifCond .ne off, 3)) (ht : (pc : Int) + off = (tgt : Int)) (ha : -2147483648 ≤ a) (ha2 : a < 2147483648) (kt : a ≠ 0 → qJ G md R F (tgt) (ls) (st) (m) (cc) (cs)) (kf : a = 0 → qJ G md R F (pc + 3) (ls) (st) (m) (cc) (cs)) : qJ G md R F (pc) (ls) (vI a :: st) (m) (cc) (cs) := by
  intro p e s mm args below meth c C H locs lsc hH hz hS hl
  exact lv_if_ne C.x C.b (C.d.at hd) ht (fun q => kt (zi_ne0 ha ha2 |>.mp q) p e s mm args below meth c C H locs lsc hH hz hS hl) (fun q => kf (zi_eq0 ha ha2 |>.mp q) p e s mm args below meth c C H locs lsc hH hz hS hl)
theorem j_icmp_ne {a b : Int} {off : Int} {tgt : Nat} (hd : qlk md.c pc = some (.if_icmp .ne off, 3)) (ht : (pc : Int) + off = (tgt : Int)) (ha : -2147483648 ≤ a) (ha2 : a < 2147483648) (hb : -2147483648 ≤ b) (hb2 : b < 2147483648) (kt : a ≠ b → qJ G md R F (tgt) (ls) (st) (m) (cc) (cs)) (kf : a = b → qJ G md R F (pc + 3) (ls) (st) (m) (cc) (cs)) : qJ G md R F (pc) (ls) (vI b :: vI a :: st) (m) (cc) (cs) := by
  intro p e s mm args below meth c C H locs lsc hH hz hS hl
  exact lv_icmp_ne C.x C.b (C.d.at hd) ht (fun q => kt (zi_ne ha ha2 hb hb2 |>.mp q) p e s mm args below meth c C H locs lsc hH hz hS hl) (fun q => kf (zi_eq ha ha2 hb hb2 |>.mp q) p e s mm args below meth c C H locs lsc hH hz hS hl)
theorem j_if_lt {a : Int} {off : Int} {tgt : Nat} (hd : qlk md.c pc = some (.ifCond .lt off, 3)) (ht : (pc : Int) + off = (tgt : Int)) (ha : -2147483648 ≤ a) (ha2 : a < 2147483648) (kt : a < 0 → qJ G md R F (tgt) (ls) (st) (m) (cc) (cs)) (kf : ¬ a < 0 → qJ G md R F (pc + 3) (ls) (st) (m) (cc) (cs)) : qJ G md R F (pc) (ls) (vI a :: st) (m) (cc) (cs) := by
  intro p e s mm args below meth c C H locs lsc hH hz hS hl
  exact lv_if_lt C.x C.b (C.d.at hd) ht (fun q => kt (zi_lt0 ha ha2 |>.mp q) p e s mm args below meth c C H locs lsc hH hz hS hl) (fun q => kf (fun q2 => q (zi_lt0 ha ha2 |>.mpr q2)) p e s mm args below meth c C H locs lsc hH hz hS hl)
theorem j_icmp_lt {a b : Int} {off : Int} {tgt : Nat} (hd : qlk md.c pc = some (.if_icmp .lt off, 3)) (ht : (pc : Int) + off = (tgt : Int)) (ha : -2147483648 ≤ a) (ha2 : a < 2147483648) (hb : -2147483648 ≤ b) (hb2 : b < 2147483648) (kt : a < b → qJ G md R F (tgt) (ls) (st) (m) (cc) (cs)) (kf : ¬ a < b → qJ G md R F (pc + 3) (ls) (st) (m) (cc) (cs)) : qJ G md R F (pc) (ls) (vI b :: vI a :: st) (m) (cc) (cs) := by
  intro p e s mm args below meth c C H locs lsc hH hz hS hl
  exact lv_icmp_lt C.x C.b (C.d.at hd) ht (fun q => kt (zi_lt ha ha2 hb hb2 |>.mp q) p e s mm args below meth c C H locs lsc hH hz hS hl) (fun q => kf (fun q2 => q (zi_lt ha ha2 hb hb2 |>.mpr q2)) p e s mm args below meth c C H locs lsc hH hz hS hl)
theorem j_if_ge {a : Int} {off : Int} {tgt : Nat} (hd : qlk md.c pc = some (.ifCond .ge off, 3)) (ht : (pc : Int) + off = (tgt : Int)) (ha : -2147483648 ≤ a) (ha2 : a < 2147483648) (kt : a ≥ 0 → qJ G md R F (tgt) (ls) (st) (m) (cc) (cs)) (kf : ¬ a ≥ 0 → qJ G md R F (pc + 3) (ls) (st) (m) (cc) (cs)) : qJ G md R F (pc) (ls) (vI a :: st) (m) (cc) (cs) := by
  intro p e s mm args below meth c C H locs lsc hH hz hS hl
  exact lv_if_ge C.x C.b (C.d.at hd) ht (fun q => kt (zi_ge0 ha ha2 |>.mp q) p e s mm args below meth c C H locs lsc hH hz hS hl) (fun q => kf (fun q2 => q (zi_ge0 ha ha2 |>.mpr q2)) p e s mm args below meth c C H locs lsc hH hz hS hl)
theorem j_icmp_ge {a b : Int} {off : Int} {tgt : Nat} (hd : qlk md.c pc = some (.if_icmp .ge off, 3)) (ht : (pc : Int) + off = (tgt : Int)) (ha : -2147483648 ≤ a) (ha2 : a < 2147483648) (hb : -2147483648 ≤ b) (hb2 : b < 2147483648) (kt : a ≥ b → qJ G md R F (tgt) (ls) (st) (m) (cc) (cs)) (kf : ¬ a ≥ b → qJ G md R F (pc + 3) (ls) (st) (m) (cc) (cs)) : qJ G md R F (pc) (ls) (vI b :: vI a :: st) (m) (cc) (cs) := by
  intro p e s mm args below meth c C H locs lsc hH hz hS hl
  exact lv_icmp_ge C.x C.b (C.d.at hd) ht (fun q => kt (zi_ge ha ha2 hb hb2 |>.mp q) p e s mm args below meth c C H locs lsc hH hz hS hl) (fun q => kf (fun q2 => q (zi_ge ha ha2 hb hb2 |>.mpr q2)) p e s mm args below meth c C H locs lsc hH hz hS hl)
theorem j_if_gt {a : Int} {off : Int} {tgt : Nat} (hd : qlk md.c pc = some (.ifCond .gt off, 3)) (ht : (pc : Int) + off = (tgt : Int)) (ha : -2147483648 ≤ a) (ha2 : a < 2147483648) (kt : a > 0 → qJ G md R F (tgt) (ls) (st) (m) (cc) (cs)) (kf : ¬ a > 0 → qJ G md R F (pc + 3) (ls) (st) (m) (cc) (cs)) : qJ G md R F (pc) (ls) (vI a :: st) (m) (cc) (cs) := by
  intro p e s mm args below meth c C H locs lsc hH hz hS hl
  exact lv_if_gt C.x C.b (C.d.at hd) ht (fun q => kt (zi_gt0 ha ha2 |>.mp q) p e s mm args below meth c C H locs lsc hH hz hS hl) (fun q => kf (fun q2 => q (zi_gt0 ha ha2 |>.mpr q2)) p e s mm args below meth c C H locs lsc hH hz hS hl)
theorem j_icmp_gt {a b : Int} {off : Int} {tgt : Nat} (hd : qlk md.c pc = some (.if_icmp .gt off, 3)) (ht : (pc : Int) + off = (tgt : Int)) (ha : -2147483648 ≤ a) (ha2 : a < 2147483648) (hb : -2147483648 ≤ b) (hb2 : b < 2147483648) (kt : a > b → qJ G md R F (tgt) (ls) (st) (m) (cc) (cs)) (kf : ¬ a > b → qJ G md R F (pc + 3) (ls) (st) (m) (cc) (cs)) : qJ G md R F (pc) (ls) (vI b :: vI a :: st) (m) (cc) (cs) := by
  intro p e s mm args below meth c C H locs lsc hH hz hS hl
  exact lv_icmp_gt C.x C.b (C.d.at hd) ht (fun q => kt (zi_gt ha ha2 hb hb2 |>.mp q) p e s mm args below meth c C H locs lsc hH hz hS hl) (fun q => kf (fun q2 => q (zi_gt ha ha2 hb hb2 |>.mpr q2)) p e s mm args below meth c C H locs lsc hH hz hS hl)
theorem j_if_le {a : Int} {off : Int} {tgt : Nat} (hd : qlk md.c pc = some (.ifCond .le off, 3)) (ht : (pc : Int) + off = (tgt : Int)) (ha : -2147483648 ≤ a) (ha2 : a < 2147483648) (kt : a ≤ 0 → qJ G md R F (tgt) (ls) (st) (m) (cc) (cs)) (kf : ¬ a ≤ 0 → qJ G md R F (pc + 3) (ls) (st) (m) (cc) (cs)) : qJ G md R F (pc) (ls) (vI a :: st) (m) (cc) (cs) := by
  intro p e s mm args below meth c C H locs lsc hH hz hS hl
  exact lv_if_le C.x C.b (C.d.at hd) ht (fun q => kt (zi_le0 ha ha2 |>.mp q) p e s mm args below meth c C H locs lsc hH hz hS hl) (fun q => kf (fun q2 => q (zi_le0 ha ha2 |>.mpr q2)) p e s mm args below meth c C H locs lsc hH hz hS hl)
theorem j_icmp_le {a b : Int} {off : Int} {tgt : Nat} (hd : qlk md.c pc = some (.if_icmp .le off, 3)) (ht : (pc : Int) + off = (tgt : Int)) (ha : -2147483648 ≤ a) (ha2 : a < 2147483648) (hb : -2147483648 ≤ b) (hb2 : b < 2147483648) (kt : a ≤ b → qJ G md R F (tgt) (ls) (st) (m) (cc) (cs)) (kf : ¬ a ≤ b → qJ G md R F (pc + 3) (ls) (st) (m) (cc) (cs)) : qJ G md R F (pc) (ls) (vI b :: vI a :: st) (m) (cc) (cs) := by
  intro p e s mm args below meth c C H locs lsc hH hz hS hl
  exact lv_icmp_le C.x C.b (C.d.at hd) ht (fun q => kt (zi_le ha ha2 hb hb2 |>.mp q) p e s mm args below meth c C H locs lsc hH hz hS hl) (fun q => kf (fun q2 => q (zi_le ha ha2 hb hb2 |>.mpr q2)) p e s mm args below meth c C H locs lsc hH hz hS hl)
theorem j_tableOut {dflt lo hi : Int} {offs : Array Int} {len : Nat} {a : Int} {tgt : Nat} (hd : qlk md.c pc = some (.tableswitch dflt lo hi offs, len)) (ha : -2147483648 ≤ a) (ha2 : a < 2147483648) (h : a < lo ∨ hi < a) (ht : (pc : Int) + dflt = (tgt : Int)) (k : qJ G md R F (tgt) (ls) (st) (m) (cc) (cs)) : qJ G md R F (pc) (ls) (vI a :: st) (m) (cc) (cs) := by
  intro p e s mm args below meth c C H locs lsc hH hz hS hl
  exact lv_tableOut C.x C.b (C.d.at hd) (by rw [zi_toInt ha ha2]; exact h) ht (k p e s mm args below meth c C H locs lsc hH hz hS hl)
theorem j_tableIn {dflt lo hi : Int} {offs : Array Int} {len : Nat} {a off : Int} {tgt : Nat} (hd : qlk md.c pc = some (.tableswitch dflt lo hi offs, len)) (ha : -2147483648 ≤ a) (ha2 : a < 2147483648) (h1 : ¬ a < lo) (h2 : ¬ hi < a) (ho : offs[(a - lo).toNat]? = some off) (ht : (pc : Int) + off = (tgt : Int)) (k : qJ G md R F (tgt) (ls) (st) (m) (cc) (cs)) : qJ G md R F (pc) (ls) (vI a :: st) (m) (cc) (cs) := by
  intro p e s mm args below meth c C H locs lsc hH hz hS hl
  exact lv_tableIn C.x C.b (C.d.at hd) (by rw [zi_toInt ha ha2]; exact h1) (by rw [zi_toInt ha ha2]; exact h2) (by rw [zi_toInt ha ha2]; exact ho) ht (k p e s mm args below meth c C H locs lsc hH hz hS hl)
theorem j_lookup {dflt : Int} {ps : Array (Int × Int)} {len : Nat} {a off : Int} {tgt : Nat} (hd : qlk md.c pc = some (.lookupswitch dflt ps, len)) (ha : -2147483648 ≤ a) (ha2 : a < 2147483648) (hp : (ps.toList.zip (ps.toList.drop 1)).all (fun (a, next) => a.1 < next.1) = true) (ho : Op.lookupswitch.offset ps.toList dflt a = off) (ht : (pc : Int) + off = (tgt : Int)) (k : qJ G md R F (tgt) (ls) (st) (m) (cc) (cs)) : qJ G md R F (pc) (ls) (vI a :: st) (m) (cc) (cs) := by
  intro p e s mm args below meth c C H locs lsc hH hz hS hl
  exact lv_lookup C.x C.b (C.d.at hd) hp (by rw [zi_toInt ha ha2]; exact ho) ht (k p e s mm args below meth c C H locs lsc hH hz hS hl)
end QJR

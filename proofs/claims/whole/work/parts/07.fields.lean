section QR
variable {G : QW} {md : MD} {R : Room} {F : QFin} {pc : Nat} {ls : List (Nat × Vl)} {st : List Vl} {m : AM} {cc cs : Nat}
theorem cellE_of {m m' : AM} {n : Nat} (h1 : ∀ j, mi m' n j = mi m n j) (h2 : ∀ j, ml m' n j = ml m n j) (h3 : ∀ j, mr m' n j = mr m n j) (h4 : mk m' n = mk m n) (h5 : mn m' n = mn m n) : cellE G m' n = cellE G m n := by
  have e1 : fvalE G m' n = fvalE G m n := by funext j; unfold fvalE; rw [h1, h3, h4]
  have e2 : aE G m' n = aE G m n := by
    unfold aE
    rw [h4, h5, show (fun j => zl (ml m' n j)) = (fun j => zl (ml m n j)) from funext fun j => by rw [h2], show (fun j => zi (mi m' n j)) = (fun j => zi (mi m n j)) from funext fun j => by rw [h1], show (fun j => (mr m' n j).map (G.HB.size + ·)) = (fun j => (mr m n j).map (G.HB.size + ·)) from funext fun j => by rw [h3]]
  unfold cellE
  rw [e1, e2, h4]
theorem u2_ne {α : Type} {f : Nat → Nat → α} {o k : Nat} {v : α} {p j : Nat} (h : p ≠ o) : u2 f o k v p j = f p j := if_neg (fun q => h q.1)
theorem cellE_si (m : AM) {o k : Nat} {v : Int} {n : Nat} (h : n ≠ o) : cellE G (si m o k v) n = cellE G m n := cellE_of (fun _ => congrArg (fun x => (zi x).toInt) (u2_ne h)) (fun _ => rfl) (fun _ => rfl) rfl rfl
theorem cellE_sl (m : AM) {o k : Nat} {v : Int} {n : Nat} (h : n ≠ o) : cellE G (sl m o k v) n = cellE G m n := cellE_of (fun _ => rfl) (fun _ => congrArg (fun x => (zl x).toInt) (u2_ne h)) (fun _ => rfl) rfl rfl
theorem cellE_sr (m : AM) {o k : Nat} {v : Option Nat} {n : Nat} (h : n ≠ o) : cellE G (sr m o k v) n = cellE G m n := cellE_of (fun _ => rfl) (fun _ => rfl) (fun _ => u2_ne h) rfl rfl
theorem qws_set {m m' : AM} {o : Nat} (hz : mz m' = mz m) (h : ∀ n, n ≠ o → cellE G m' n = cellE G m n) {e : va_E} (he : e = cellE G m' o) : (qws G m).set o (G.HB.size + o, e) = qws G m' := by
  subst he
  apply List.ext_getElem?
  intro n
  by_cases hn : n < mz m
  · rw [qws_at G (by rw [hz]; exact hn)]
    by_cases ho : n = o
    · subst ho
      rw [List.getElem?_set_self (by rw [qws_len]; exact hn)]
    · rw [List.getElem?_set_ne (fun q => ho q.symm), qws_at G hn, h n ho]
  · rw [List.getElem?_eq_none (by rw [List.length_set, qws_len]; omega), List.getElem?_eq_none (by rw [qws_len]; omega)]
/-- one more step of the same frame, at a heap of the same size -/
theorem qgo {m m' : AM} {pc' : Nat} {ls' : List (Nat × Vl)} {st' : List Vl} {p : Program} {e : Env} {s : State} {mm : MethodId} {args : Array Value} {below : List Frame} {meth : Method} {c : Code} {H H1 : Heap} {locs locs1 : List Loc} {lsc : Array Slot}
    (k : qJ G md R F pc' ls' st' m' cc cs) (C : qC G md p s mm args meth c) (hH : QH G m H) (hz : H.size = s.heap.size + cc) (hS : va_S (fun q => G.HB.size ≤ q) s.heap H locs) (hl : lv_has lsc md.n (lmap G ls'))
    (hm : mz m' = mz m) (hP1 : va_P G.D nbC (qws G m') H1) (hS1 : va_S (fun q => G.HB.size ≤ q) H H1 locs1) : W p G.l e R s mm args below meth c H1 locs1 cc cs (F below args s) (F0 mm pc' lsc (st'.map (qv G))) := by
  intro T hT X
  have h1 := X.heapSize
  have h2 := hS1.1
  rw [hT] at h1
  have h3 := hH.1
  have hsz : H1.size = s.heap.size + cc := by omega
  refine k p e s mm args below meth c C H1 locs1 lsc ⟨by omega, hP1, fun q hq => ?_⟩ hsz ⟨by omega, fun q g1 g2 => ?_, hS1.2.2⟩ hl T hT X
  · rw [hS1.2.1 q (by omega) (by omega)]
    exact hH.2.2 q hq
  · rw [hS1.2.1 q (by omega) g2]
    exact hS.2.1 q g1 g2
theorem qS0 {H : Heap} {locs : List Loc} {s : State} (hS : va_S (fun q => G.HB.size ≤ q) s.heap H locs) : va_S (fun q => G.HB.size ≤ q) H H locs := ⟨Nat.le_refl _, fun _ _ _ => rfl, hS.2.2⟩
/-- a field of a class: its place, type, whether final; the words for it are there -/
def qFL (own : String) (i c k : Nat) (ty : FieldType) (fin : Bool) : Prop := ∃ (q : vw_C) (ty0 : Nat → FieldType), nbC[c]? = some q ∧ c < 13 ∧ nF c = q.2.2 ∧ (∀ w ∈ u_ws q.1 q.2.1 q.2.2, w ∈ tb) ∧ (∀ k, k < q.2.2 → parseFieldDescriptor (q.2.1 k).2.2.1 = some (ty0 k)) ∧ (∀ a, a < q.2.2 → ∀ b, b < q.2.2 → a ≠ b → (q.2.1 a).2.1 ≠ (q.2.1 b).2.1) ∧ k < q.2.2 ∧ Cond.fieldLink own i (q.2.1 k).1 (q.2.1 k).2.1 (q.2.1 k).2.2.1 ∈ tb ∧ ty0 k = ty ∧ (q.2.1 k).2.2.2 = fin ∧ (q.2.1 k).1 = q.1
theorem cellE_obj {m : AM} {o c : Nat} (hk : mk m o = c) (hc : c < 13) : cellE G m o = .inr (c, (List.range (nF c)).map (fvalE G m o)) := by
  unfold cellE
  rw [if_pos (by rw [hk]; exact hc), hk]
theorem obj_at {m : AM} {o c : Nat} (ho : o < mz m) (hk : mk m o = c) (hc : c < 13) : (qws G m)[o]? = some (G.HB.size + o, .inr (c, (List.range (nF c)).map (fvalE G m o))) := by
  rw [qws_at G ho, cellE_obj hk hc]
theorem fv_at {m : AM} {o c k : Nat} (hk : k < nF c) : ((List.range (nF c)).map (fvalE G m o))[k]? = some (fvalE G m o k) := by
  rw [List.getElem?_map, List.getElem?_range hk]; rfl
theorem j_getI {i c k o : Nat} {ty : FieldType} {fin : Bool} (hd : qlk md.c pc = some (.getfield i, 3)) (hf : qFL md.y.cls i c k ty fin) (hr : fr c k = false) (ho : o < mz m) (hk : mk m o = c)
    (kk : qJ G md R F (pc + 3) ls (vI (mi m o k) :: st) m cc cs) : qJ G md R F pc ls (vR o :: st) m cc cs := by
  intro p e s mm args below meth c0 C H locs lsc hH hz hS hl
  obtain ⟨q, ty0, f1, f2, f3, f4, f5, f6, f7, f8, f9, f10, f11⟩ := hf
  refine va_get (D := G.D) (ci := c) (v := .int (zi (mi m o k))) (C := q.1) (T := q.2.1) (N := q.2.2) C.x C.b C.t f4 C.o C.T.1 hH.2.1 o (obj_at ho hk f2) f1 k f7 (C.t _ f8) (fun _ h9 => h9) ?_ (C.d.at hd) (kk p e s mm args below meth c0 C H locs lsc hH hz hS hl)
  rw [fv_at (by rw [f3]; exact f7)]
  unfold fvalE
  rw [hk, hr]
  rfl
theorem j_getR {i c k o q : Nat} {ty : FieldType} {fin : Bool} (hd : qlk md.c pc = some (.getfield i, 3)) (hf : qFL md.y.cls i c k ty fin) (hr : fr c k = true) (ho : o < mz m) (hk : mk m o = c) (hv : mr m o k = some q)
    (kk : qJ G md R F (pc + 3) ls (vR q :: st) m cc cs) : qJ G md R F pc ls (vR o :: st) m cc cs := by
  intro p e s mm args below meth c0 C H locs lsc hH hz hS hl
  obtain ⟨q0, ty0, f1, f2, f3, f4, f5, f6, f7, f8, f9, f10, f11⟩ := hf
  refine va_get (D := G.D) (ci := c) (v := .ref (G.HB.size + q)) (C := q0.1) (T := q0.2.1) (N := q0.2.2) C.x C.b C.t f4 C.o C.T.1 hH.2.1 o (obj_at ho hk f2) f1 k f7 (C.t _ f8) (fun _ h9 => h9) ?_ (C.d.at hd) (kk p e s mm args below meth c0 C H locs lsc hH hz hS hl)
  rw [fv_at (by rw [f3]; exact f7)]
  unfold fvalE
  rw [hk, hr, hv]
  rfl
theorem fv_set {m m' : AM} {o c k : Nat} {v : Value} (hv : fvalE G m' o k = v) (ho : ∀ j, j ≠ k → fvalE G m' o j = fvalE G m o j) : ((List.range (nF c)).map (fvalE G m o)).set k v = (List.range (nF c)).map (fvalE G m' o) := by
  apply List.ext_getElem?
  intro j
  by_cases h : j = k
  · subst h
    by_cases hl : j < nF c
    · rw [List.getElem?_set_self (by simpa using hl), fv_at hl, hv]
    · rw [List.getElem?_eq_none (by simpa using hl), List.getElem?_eq_none (by simpa using hl)]
  · rw [List.getElem?_set_ne (fun q => h q.symm)]
    by_cases hl : j < nF c
    · rw [fv_at hl, fv_at hl, ho j h]
    · rw [List.getElem?_eq_none (by simpa using hl), List.getElem?_eq_none (by simpa using hl)]
theorem zmi_si_same (m : AM) (o k : Nat) (v : Int) : zi (mi (si m o k v) o k) = zi v := by rw [mi_si, if_pos ⟨rfl, rfl⟩, zi_of]
theorem mi_si_same (m : AM) (o k : Nat) {v : Int} (h : -2147483648 ≤ v) (h2 : v < 2147483648) : mi (si m o k v) o k = v := by rw [mi_si, if_pos ⟨rfl, rfl⟩, zi_toInt h h2]
theorem mi_si_ne (m : AM) {o k p j : Nat} (v : Int) (h : ¬ (p = o ∧ j = k)) : mi (si m o k v) p j = mi m p j := by rw [mi_si, if_neg h]
theorem zml_sl_same (m : AM) (o k : Nat) (v : Int) : zl (ml (sl m o k v) o k) = zl v := by rw [ml_sl, if_pos ⟨rfl, rfl⟩, zl_of]
theorem ml_sl_same (m : AM) (o k : Nat) {v : Int} (h : -9223372036854775808 ≤ v) (h2 : v < 9223372036854775808) : ml (sl m o k v) o k = v := by rw [ml_sl, if_pos ⟨rfl, rfl⟩, zl_toInt h h2]
theorem ml_sl_ne (m : AM) {o k p j : Nat} (v : Int) (h : ¬ (p = o ∧ j = k)) : ml (sl m o k v) p j = ml m p j := by rw [ml_sl, if_neg h]
theorem mr_sr_same (m : AM) (o k : Nat) (v : Option Nat) : mr (sr m o k v) o k = v := if_pos ⟨rfl, rfl⟩
theorem mr_sr_ne (m : AM) {o k p j : Nat} (v : Option Nat) (h : ¬ (p = o ∧ j = k)) : mr (sr m o k v) p j = mr m p j := if_neg h
theorem fv_si_ne (m : AM) {o k j : Nat} {v : Int} (h : j ≠ k) : fvalE G (si m o k v) o j = fvalE G m o j := by
  unfold fvalE
  rw [mk_si, mr_si, mi_si_ne m v (fun q => h q.2)]
theorem fv_sr_ne (m : AM) {o k j : Nat} {v : Option Nat} (h : j ≠ k) : fvalE G (sr m o k v) o j = fvalE G m o j := by
  unfold fvalE
  rw [mk_sr, mi_sr, mr_sr_ne m v (fun q => h q.2)]
theorem fv_si_eq (m : AM) {o k c : Nat} {v : Int} (hk : mk m o = c) (hr : fr c k = false) : fvalE G (si m o k v) o k = .int (zi v) := by
  unfold fvalE
  rw [mk_si, hk, hr, zmi_si_same]
  rfl
theorem fv_sr_eq (m : AM) {o k c : Nat} {v : Option Nat} (hk : mk m o = c) (hr : fr c k = true) : fvalE G (sr m o k v) o k = va_rf (v.map (G.HB.size + ·)) := by
  unfold fvalE
  rw [mk_sr, hk, hr, mr_sr_same]
  rfl
theorem qset_si (m : AM) {o c k : Nat} {a : Int} (hk : mk m o = c) (hc : c < 13) (hr : fr c k = false) : (qws G m).set o (G.HB.size + o, .inr (c, ((List.range (nF c)).map (fvalE G m o)).set k (.int (zi a)))) = qws G (si m o k a) := by
  have e : cellE G (si m o k a) o = .inr (c, (List.range (nF c)).map (fvalE G (si m o k a) o)) := cellE_obj hk hc
  rw [fv_set (m' := si m o k a) (fv_si_eq m hk hr) (fun j hj => fv_si_ne m hj)]
  exact qws_set (m := m) (m' := si m o k a) rfl (fun n hn => cellE_si m hn) e.symm
theorem qset_sr (m : AM) {o c k v : Nat} (hk : mk m o = c) (hc : c < 13) (hr : fr c k = true) : (qws G m).set o (G.HB.size + o, .inr (c, ((List.range (nF c)).map (fvalE G m o)).set k (.ref (G.HB.size + v)))) = qws G (sr m o k (some v)) := by
  have e : cellE G (sr m o k (some v)) o = .inr (c, (List.range (nF c)).map (fvalE G (sr m o k (some v)) o)) := cellE_obj hk hc
  have h : fvalE G (sr m o k (some v)) o k = .ref (G.HB.size + v) := fv_sr_eq m hk hr
  rw [fv_set (m' := sr m o k (some v)) h (fun j hj => fv_sr_ne m hj)]
  exact qws_set (m := m) (m' := sr m o k (some v)) rfl (fun n hn => cellE_sr m hn) e.symm
theorem fit_z {a : Int} (h : a = 0 ∨ a = 1) : narrow .boolean (.int (zi a)) = .int (zi a) ∧ fits .boolean (.int (zi a)) = true := by
  rcases h with rfl | rfl <;> exact ⟨rfl, rfl⟩
theorem j_putX {i c k o : Nat} {ty : FieldType} {a : Int} (hd : qlk md.c pc = some (.putfield i, 3)) (hf : qFL md.y.cls i c k ty false) (hn : narrow ty (.int (zi a)) = .int (zi a)) (hfit : fits ty (.int (zi a)) = true) (hr : fr c k = false) (ho : o < mz m) (hk : mk m o = c)
    (kk : qJ G md R F (pc + 3) ls st (si m o k a) cc cs) : qJ G md R F pc ls (vI a :: vR o :: st) m cc cs := by
  intro p e s mm args below meth c0 C H locs lsc hH hz hS hl
  obtain ⟨q, ty0, f1, f2, f3, f4, f5, f6, f7, f8, f9, f10, f11⟩ := hf
  refine va_put (D := G.D) (ci := c) (v := .int (zi a)) (ty := ty) (C := q.1) (T := q.2.1) (N := q.2.2) C.x C.b C.t f4 ty0 f5 f6 C.o C.T.1 hH.2.1 (qws_D G m) (qS0 hS) o (obj_at ho hk f2) f1 k f7 (C.t _ f8) (fun _ h9 => h9) f10 (by rw [f5 k f7, f9]) hn hfit (by rw [List.length_map, List.length_range, f3]; exact f7) (C.d.at hd) (fun H1 locs1 hP1 _ hS1 => ?_)
  rw [qset_si m hk f2 hr] at hP1
  exact qgo kk C hH hz hS hl rfl hP1 hS1
theorem j_putI {i c k o : Nat} {a : Int} (hd : qlk md.c pc = some (.putfield i, 3)) (hf : qFL md.y.cls i c k .int false) (hr : fr c k = false) (ho : o < mz m) (hk : mk m o = c)
    (kk : qJ G md R F (pc + 3) ls st (si m o k a) cc cs) : qJ G md R F pc ls (vI a :: vR o :: st) m cc cs := j_putX hd hf rfl rfl hr ho hk kk
theorem j_putZ {i c k o : Nat} {a : Int} (hd : qlk md.c pc = some (.putfield i, 3)) (hf : qFL md.y.cls i c k .boolean false) (h01 : a = 0 ∨ a = 1) (hr : fr c k = false) (ho : o < mz m) (hk : mk m o = c)
    (kk : qJ G md R F (pc + 3) ls st (si m o k a) cc cs) : qJ G md R F pc ls (vI a :: vR o :: st) m cc cs := j_putX hd hf (fit_z h01).1 (fit_z h01).2 hr ho hk kk
theorem j_putR {i c k o v : Nat} {ty : FieldType} (hd : qlk md.c pc = some (.putfield i, 3)) (hf : qFL md.y.cls i c k ty false) (hty : ∀ a : Nat, narrow ty (.ref a) = .ref a ∧ fits ty (.ref a) = true) (hr : fr c k = true) (ho : o < mz m) (hk : mk m o = c)
    (kk : qJ G md R F (pc + 3) ls st (sr m o k (some v)) cc cs) : qJ G md R F pc ls (vR v :: vR o :: st) m cc cs := by
  intro p e s mm args below meth c0 C H locs lsc hH hz hS hl
  obtain ⟨q, ty0, f1, f2, f3, f4, f5, f6, f7, f8, f9, f10, f11⟩ := hf
  refine va_put (D := G.D) (ci := c) (v := .ref (G.HB.size + v)) (ty := ty) (C := q.1) (T := q.2.1) (N := q.2.2) C.x C.b C.t f4 ty0 f5 f6 C.o C.T.1 hH.2.1 (qws_D G m) (qS0 hS) o (obj_at ho hk f2) f1 k f7 (C.t _ f8) (fun _ h9 => h9) f10 (by rw [f5 k f7, f9]) (hty _).1 (hty _).2 (by rw [List.length_map, List.length_range, f3]; exact f7) (C.d.at hd) (fun H1 locs1 hP1 _ hS1 => ?_)
  replace hP1 := (qset_sr (G := G) m (v := v) hk f2 hr) ▸ hP1
  exact qgo kk C hH hz hS hl rfl hP1 hS1
theorem j_putFR {i c k o v : Nat} {ty : FieldType} (hd : qlk md.c pc = some (.putfield i, 3)) (hf : qFL md.y.cls i c k ty true) (hin : md.y.name = "<init>") (hown : (nbC[c]?).map (fun q => q.1) = some md.y.cls) (hty : ∀ a : Nat, narrow ty (.ref a) = .ref a ∧ fits ty (.ref a) = true) (hr : fr c k = true) (ho : o < mz m) (hk : mk m o = c)
    (kk : qJ G md R F (pc + 3) ls st (sr m o k (some v)) cc cs) : qJ G md R F pc ls (vR v :: vR o :: st) m cc cs := by
  intro p e s mm args below meth c0 C H locs lsc hH hz hS hl
  obtain ⟨q, ty0, f1, f2, f3, f4, f5, f6, f7, f8, f9, f10, f11⟩ := hf
  have e1 : q.1 = md.y.cls := by rw [f1] at hown; exact Option.some.inj hown
  refine va_putF (D := G.D) (ci := c) (v := .ref (G.HB.size + v)) (ty := ty) (C := q.1) (T := q.2.1) (N := q.2.2) C.x C.b C.t f4 ty0 f5 f6 C.o C.T.1 hH.2.1 (qws_D G m) (qS0 hS) o (obj_at ho hk f2) f1 k f7 (C.t _ f8) (fun _ h9 => h9) f10 (C.nm.trans hin) (f11.trans e1) (by rw [f5 k f7, f9]) (hty _).1 (hty _).2 (by rw [List.length_map, List.length_range, f3]; exact f7) (C.d.at hd) (fun H1 locs1 hP1 _ hS1 => ?_)
  replace hP1 := (qset_sr (G := G) m (v := v) hk f2 hr) ▸ hP1
  exact qgo kk C hH hz hS hl rfl hP1 hS1
theorem j_putFI {i c k o : Nat} {a : Int} (hd : qlk md.c pc = some (.putfield i, 3)) (hf : qFL md.y.cls i c k .int true) (hin : md.y.name = "<init>") (hown : (nbC[c]?).map (fun q => q.1) = some md.y.cls) (hr : fr c k = false) (ho : o < mz m) (hk : mk m o = c)
    (kk : qJ G md R F (pc + 3) ls st (si m o k a) cc cs) : qJ G md R F pc ls (vI a :: vR o :: st) m cc cs := by
  intro p e s mm args below meth c0 C H locs lsc hH hz hS hl
  obtain ⟨q, ty0, f1, f2, f3, f4, f5, f6, f7, f8, f9, f10, f11⟩ := hf
  have e1 : q.1 = md.y.cls := by rw [f1] at hown; exact Option.some.inj hown
  refine va_putF (D := G.D) (ci := c) (v := .int (zi a)) (ty := .int) (C := q.1) (T := q.2.1) (N := q.2.2) C.x C.b C.t f4 ty0 f5 f6 C.o C.T.1 hH.2.1 (qws_D G m) (qS0 hS) o (obj_at ho hk f2) f1 k f7 (C.t _ f8) (fun _ h9 => h9) f10 (C.nm.trans hin) (f11.trans e1) (by rw [f5 k f7, f9]) rfl rfl (by rw [List.length_map, List.length_range, f3]; exact f7) (C.d.at hd) (fun H1 locs1 hP1 _ hS1 => ?_)
  rw [qset_si m hk f2 hr] at hP1
  exact qgo kk C hH hz hS hl rfl hP1 hS1
end QR

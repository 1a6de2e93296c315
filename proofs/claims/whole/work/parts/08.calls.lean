section QA
variable {G : QW} {md : MD} {R : Room} {F : QFin} {pc : Nat} {ls : List (Nat × Vl)} {st : List Vl} {m : AM} {cc cs : Nat}
theorem zi_nat {j : Int} (h : 0 ≤ j) (h2 : j < 2147483648) : (zi j).toNatClampNeg = j.toNat := by
  show (zi j).toInt.toNat = j.toNat
  rw [zi_toInt (by omega) h2]
theorem zi_in {j : Int} {n : Nat} (h : 0 ≤ j) (h1 : j < n) (h2 : n < 2147483648) : vp_in (zi j) n := by
  rw [vp_in_iff, zi_toInt (by omega) (by omega)]
  exact ⟨h, h1⟩
theorem arrI_at {o : Nat} {k : Nat} (ho : o < mz m) (hk : mk m o = k) (h1 : k = 13 ∨ k = 15 ∨ k = 16) : (qws G m)[o]? = some (G.HB.size + o, .inl (G.tA (k - 13), mn m o, .inl (fun j => zi (mi m o j)))) := by
  rw [qws_at G ho]
  unfold cellE aE
  rw [hk]
  rcases h1 with rfl | rfl | rfl <;> rfl
theorem arrL_at {o : Nat} (ho : o < mz m) (hk : mk m o = 14) : (qws G m)[o]? = some (G.HB.size + o, .inl (G.tA 1, mn m o, .inr (.inl (fun j => zl (ml m o j))))) := by
  rw [qws_at G ho]
  unfold cellE aE
  rw [hk]
  rfl
theorem arrR_at {o : Nat} {k : Nat} (ho : o < mz m) (hk : mk m o = k) (h1 : 17 ≤ k) : (qws G m)[o]? = some (G.HB.size + o, .inl (G.tA (k - 13), mn m o, .inr (.inr (.inr (.inr (fun j => (mr m o j).map (G.HB.size + ·))))))) := by
  rw [qws_at G ho]
  unfold cellE aE
  rw [hk, if_neg (by omega), if_neg (by omega), if_neg (by omega)]
theorem j_iald {o n : Nat} {j : Int} (hd : qlk md.c pc = some (.iaload, 1)) (ho : o < mz m) (hk : mk m o = 13) (hn : mn m o = n) (h0 : 0 ≤ j) (h1 : j < n) (h2 : n < 2147483648)
    (kk : qJ G md R F (pc + 1) ls (vI (mi m o j.toNat) :: st) m cc cs) : qJ G md R F pc ls (vI j :: vR o :: st) m cc cs := by
  intro p e s mm args below meth c C H locs lsc hH hz hS hl
  subst hn
  refine va_iald C.x C.b C.T.1 hH.2.1 o 0 (arrI_at ho hk (Or.inl rfl)) rfl (zi_in h0 h1 h2) (C.d.at hd) ?_
  rw [zi_nat h0 (by omega)]
  exact kk p e s mm args below meth c C H locs lsc hH hz hS hl
theorem j_bald {o n : Nat} {j : Int} (hd : qlk md.c pc = some (.baload, 1)) (ho : o < mz m) (hk : mk m o = 15) (hn : mn m o = n) (h0 : 0 ≤ j) (h1 : j < n) (h2 : n < 2147483648)
    (kk : qJ G md R F (pc + 1) ls (vI (mi m o j.toNat) :: st) m cc cs) : qJ G md R F pc ls (vI j :: vR o :: st) m cc cs := by
  intro p e s mm args below meth c C H locs lsc hH hz hS hl
  subst hn
  refine va_bald C.x C.b C.T.1 hH.2.1 o 2 (arrI_at ho hk (Or.inr (Or.inl rfl))) rfl (zi_in h0 h1 h2) (C.d.at hd) ?_
  rw [zi_nat h0 (by omega)]
  exact kk p e s mm args below meth c C H locs lsc hH hz hS hl
theorem j_zald {o n : Nat} {j : Int} (hd : qlk md.c pc = some (.baload, 1)) (ho : o < mz m) (hk : mk m o = 16) (hn : mn m o = n) (h0 : 0 ≤ j) (h1 : j < n) (h2 : n < 2147483648)
    (kk : qJ G md R F (pc + 1) ls (vI (mi m o j.toNat) :: st) m cc cs) : qJ G md R F pc ls (vI j :: vR o :: st) m cc cs := by
  intro p e s mm args below meth c C H locs lsc hH hz hS hl
  subst hn
  refine va_zald C.x C.b C.T.1 hH.2.1 o 3 (arrI_at ho hk (Or.inr (Or.inr rfl))) rfl (zi_in h0 h1 h2) (C.d.at hd) ?_
  rw [zi_nat h0 (by omega)]
  exact kk p e s mm args below meth c C H locs lsc hH hz hS hl
theorem j_lald {o n : Nat} {j : Int} (hd : qlk md.c pc = some (.laload, 1)) (ho : o < mz m) (hk : mk m o = 14) (hn : mn m o = n) (h0 : 0 ≤ j) (h1 : j < n) (h2 : n < 2147483648)
    (kk : qJ G md R F (pc + 1) ls (vL (ml m o j.toNat) :: st) m cc cs) : qJ G md R F pc ls (vI j :: vR o :: st) m cc cs := by
  intro p e s mm args below meth c C H locs lsc hH hz hS hl
  subst hn
  refine va_lald C.x C.b C.T.1 hH.2.1 o 1 (arrL_at ho hk) rfl (zi_in h0 h1 h2) (C.d.at hd) ?_
  rw [zi_nat h0 (by omega)]
  exact kk p e s mm args below meth c C H locs lsc hH hz hS hl
/-- the class of an array's components, where they are objects -/
def qEl (k : Nat) (C : String) : Prop := (k = 17 ∧ C = RX1) ∨ (k = 18 ∧ C = RX3) ∨ (k = 19 ∧ C = RX7)
theorem qEl.ty {k : Nat} {C : String} (h : qEl k C) : (qtys G)[k - 13]? = some (G.tA (k - 13), .object C) := by
  rcases h with ⟨rfl, rfl⟩ | ⟨rfl, rfl⟩ | ⟨rfl, rfl⟩ <;> rfl
theorem qEl.ge {k : Nat} {C : String} (h : qEl k C) : 17 ≤ k := by
  rcases h with ⟨rfl, rfl⟩ | ⟨rfl, rfl⟩ | ⟨rfl, rfl⟩ <;> decide
theorem j_aald {o n k v : Nat} {C0 : String} {j : Int} (hd : qlk md.c pc = some (.aaload, 1)) (ho : o < mz m) (hk : mk m o = k) (he : qEl k C0) (hn : mn m o = n) (h0 : 0 ≤ j) (h1 : j < n) (h2 : n < 2147483648) (hv : mr m o j.toNat = some v)
    (kk : qJ G md R F (pc + 1) ls (vR v :: st) m cc cs) : qJ G md R F pc ls (vI j :: vR o :: st) m cc cs := by
  intro p e s mm args below meth c C H locs lsc hH hz hS hl
  subst hn
  refine va_aldq C.x C.b C.T.1 hH.2.1 o (k - 13) (arrR_at ho hk he.ge) he.ty (zi_in h0 h1 h2) (C.d.at hd) ?_
  rw [zi_nat h0 (by omega), hv]
  exact kk p e s mm args below meth c C H locs lsc hH hz hS hl
theorem j_aald2 {o n v : Nat} {j : Int} (hd : qlk md.c pc = some (.aaload, 1)) (ho : o < mz m) (hk : mk m o = 20) (hn : mn m o = n) (h0 : 0 ≤ j) (h1 : j < n) (h2 : n < 2147483648) (hv : mr m o j.toNat = some v)
    (kk : qJ G md R F (pc + 1) ls (vR v :: st) m cc cs) : qJ G md R F pc ls (vI j :: vR o :: st) m cc cs := by
  intro p e s mm args below meth c C H locs lsc hH hz hS hl
  subst hn
  have ha := hH.2.1 o _ (arrR_at ho hk (by omega))
  have hin : vp_in (zi j) (mn m o) := zi_in h0 h1 h2
  have hlt : (zi j).toNatClampNeg < mn m o := Nat.not_le.mp fun q => hin (Or.inr q)
  refine W.aald (v := .ref (G.HB.size + v)) (ty := .array .int) C.x C.b ha ((C.T.1.2 7 _ rfl).1 (mn m o) (fun i => va_rf ((mr m o i).map (G.HB.size + ·)))) rfl (fun q => by cases q) (by show ¬ (zi j < 0 ∨ (arrV _ _ _).slots.size ≤ _); rw [arrV_size]; exact hin) (by show (arrV _ _ _).slots[_]? = _; rw [arrV_read _ _ hlt, zi_nat h0 (by omega)]; show some (va_rf (Option.map _ (mr m o j.toNat))) = _; rw [hv]; rfl) rfl rfl (C.d.at hd) ?_
  exact kk p e s mm args below meth c C H locs lsc hH hz hS hl
theorem j_olen {k : Nat} (hd : qlk md.c pc = some (.arraylength, 1)) (hk : k < 3) (hn : G.oL k < 2147483648)
    (kk : qJ G md R F (pc + 1) ls (vI (G.oL k : Int) :: st) m cc cs) : qJ G md R F pc ls (vO k :: st) m cc cs := by
  intro p e s mm args below meth c C H locs lsc hH hz hS hl
  obtain ⟨hX, hlt⟩ := C.T.2.1.1 k hk
  have h := va_slen (A := fun q => G.HB.size ≤ q) (H0 := G.HB) C.x C.b hX hlt (Nat.not_le.mpr hlt) ⟨by rw [hH.1]; exact Nat.le_add_right _ _, fun q h1 _ => hH.2.2 q h1, hS.2.2⟩ (C.d.at hd) (kk p e s mm args below meth c C H locs lsc hH hz hS hl)
  exact h
theorem j_oald {k : Nat} {j : Int} (hd : qlk md.c pc = some (.iaload, 1)) (hk : k < 3) (h0 : 0 ≤ j) (h1 : j < G.oL k) (h2 : G.oL k < 2147483648)
    (kk : qJ G md R F (pc + 1) ls (vI (G.ox k j.toNat).toInt :: st) m cc cs) : qJ G md R F pc ls (vI j :: vO k :: st) m cc cs := by
  intro p e s mm args below meth c C H locs lsc hH hz hS hl
  obtain ⟨hX, hlt⟩ := C.T.2.1.1 k hk
  refine va_sld (A := fun q => G.HB.size ≤ q) (H0 := G.HB) C.x C.b hX hlt (Nat.not_le.mpr hlt) ⟨by rw [hH.1]; exact Nat.le_add_right _ _, fun q h1 _ => hH.2.2 q h1, hS.2.2⟩ (zi_in h0 h1 h2) (C.d.at hd) ?_
  rw [zi_nat h0 (by omega), ← zi_of (G.ox k j.toNat)]
  have := kk p e s mm args below meth c C H locs lsc hH hz hS hl
  rw [zi_of] 
  have e1 : qv G (vI (G.ox k j.toNat).toInt) = .int (G.ox k j.toNat) := by show Value.int (zi _) = _; rw [zi_of]
  rw [List.map_cons, e1] at this
  exact this
theorem j_gets1 {i : Nat} (hd : qlk md.c pc = some (.getstatic i, 3)) (hf : Cond.fieldLink md.y.cls i RX11 "BODIES" "[I" ∈ tb)
    (kk : qJ G md R F (pc + 3) ls (vO 1 :: st) m cc cs) : qJ G md R F pc ls st m cc cs := by
  intro p e s mm args below meth c C H locs lsc hH hz hS hl
  exact va_gets C.x C.b (C.T.2.1.2.1.kept (fun a h1 _ => C.h a h1)) hS C.o (C.t _ hf) (fun _ h => h) (C.d.at hd) (kk p e s mm args below meth c C H locs lsc hH hz hS hl)
theorem j_gets2 {i : Nat} (hd : qlk md.c pc = some (.getstatic i, 3)) (hf : Cond.fieldLink md.y.cls i RX11 "ABOVE" "[I" ∈ tb)
    (kk : qJ G md R F (pc + 3) ls (vO 2 :: st) m cc cs) : qJ G md R F pc ls st m cc cs := by
  intro p e s mm args below meth c C H locs lsc hH hz hS hl
  exact va_gets C.x C.b (C.T.2.1.2.2.kept (fun a h1 _ => C.h a h1)) hS C.o (C.t _ hf) (fun _ h => h) (C.d.at hd) (kk p e s mm args below meth c C H locs lsc hH hz hS hl)
theorem j_gets1N {i : Nat} (hd : qlk md.c pc = some (.getstatic i, 3)) (hf : (md.y.cls, i, RX11, "BODIES", "[I") ∈ nestF)
    (kk : qJ G md R F (pc + 3) ls (vO 1 :: st) m cc cs) : qJ G md R F pc ls st m cc cs := by
  intro p e s mm args below meth c C H locs lsc hH hz hS hl
  exact va_getsN C.x C.b (C.T.2.1.2.1.kept (fun a h1 _ => C.h a h1)) hS C.o (va_Nw.use rfl (C.T.2.2.1.2 _ hf)) (fun _ h => h) (C.d.at hd) (kk p e s mm args below meth c C H locs lsc hH hz hS hl)
theorem j_gets2N {i : Nat} (hd : qlk md.c pc = some (.getstatic i, 3)) (hf : (md.y.cls, i, RX11, "ABOVE", "[I") ∈ nestF)
    (kk : qJ G md R F (pc + 3) ls (vO 2 :: st) m cc cs) : qJ G md R F pc ls st m cc cs := by
  intro p e s mm args below meth c C H locs lsc hH hz hS hl
  exact va_getsN C.x C.b (C.T.2.1.2.2.kept (fun a h1 _ => C.h a h1)) hS C.o (va_Nw.use rfl (C.T.2.2.1.2 _ hf)) (fun _ h => h) (C.d.at hd) (kk p e s mm args below meth c C H locs lsc hH hz hS hl)
theorem nat_of_int {n : Nat} : Int32.ofNat n = zi (n : Int) := by
  show _ = Int32.ofInt _
  rw [Int32.ofInt_eq_ofNat]
theorem j_alen {o n k : Nat} (hd : qlk md.c pc = some (.arraylength, 1)) (ho : o < mz m) (hk : mk m o = k) (h13 : k = 13 ∨ k = 14 ∨ k = 15) (hn : mn m o = n)
    (kk : qJ G md R F (pc + 1) ls (vI (n : Int) :: st) m cc cs) : qJ G md R F pc ls (vR o :: st) m cc cs := by
  intro p e s mm args below meth c C H locs lsc hH hz hS hl
  subst hn
  rcases h13 with rfl | rfl | rfl
  · exact va_alen C.x C.b C.T.1 hH.2.1 o 0 (arrI_at ho hk (Or.inl rfl)) rfl nat_of_int (C.d.at hd) (kk p e s mm args below meth c C H locs lsc hH hz hS hl)
  · exact va_alen C.x C.b C.T.1 hH.2.1 o 1 (arrL_at ho hk) rfl nat_of_int (C.d.at hd) (kk p e s mm args below meth c C H locs lsc hH hz hS hl)
  · exact va_alen C.x C.b C.T.1 hH.2.1 o 2 (arrI_at ho hk (Or.inr (Or.inl rfl))) rfl nat_of_int (C.d.at hd) (kk p e s mm args below meth c C H locs lsc hH hz hS hl)
/-! stores -/
theorem qset_ai (m : AM) {o k i : Nat} {a : Int} (hk : mk m o = k) (h1 : k = 13 ∨ k = 15 ∨ k = 16) {f : Nat → Int32} (hf : f = upd (fun j => zi (mi m o j)) i (zi a)) : (qws G m).set o (G.HB.size + o, .inl (G.tA (k - 13), mn m o, .inl f)) = qws G (si m o i a) := by
  refine qws_set (m := m) (m' := si m o i a) rfl (fun n hn => cellE_si m hn) ?_
  have e : f = fun j => zi (mi (si m o i a) o j) := by
    rw [hf]
    funext j
    by_cases h : j = i
    · subst h
      rw [zmi_si_same]
      exact if_pos rfl
    · rw [mi_si_ne m a (fun q => h q.2)]
      exact if_neg h
  rw [e]
  unfold cellE aE
  rw [mk_si, hk]
  rcases h1 with rfl | rfl | rfl <;> rfl
theorem j_iast {o n : Nat} {j a : Int} (hd : qlk md.c pc = some (.iastore, 1)) (ho : o < mz m) (hk : mk m o = 13) (hn : mn m o = n) (h0 : 0 ≤ j) (h1 : j < n) (h2 : n < 2147483648)
    (kk : qJ G md R F (pc + 1) ls st (si m o j.toNat a) cc cs) : qJ G md R F pc ls (vI a :: vI j :: vR o :: st) m cc cs := by
  intro p e s mm args below meth c C H locs lsc hH hz hS hl
  subst hn
  refine va_iast C.x C.b C.T.1 hH.2.1 (qws_D G m) (qS0 hS) o 0 (arrI_at ho hk (Or.inl rfl)) rfl (zi_in h0 h1 h2) (C.d.at hd) (fun H1 locs1 hP1 _ hS1 => ?_)
  rw [zi_nat h0 (by omega)] at hP1
  exact qgo kk C hH hz hS hl rfl ((qset_ai (G := G) (i := j.toNat) (a := a) m hk (Or.inl rfl) rfl) ▸ hP1) hS1
theorem j_zast {o n : Nat} {j a : Int} (hd : qlk md.c pc = some (.bastore, 1)) (ho : o < mz m) (hk : mk m o = 16) (hn : mn m o = n) (h0 : 0 ≤ j) (h1 : j < n) (h2 : n < 2147483648) (h01 : a = 0 ∨ a = 1)
    (kk : qJ G md R F (pc + 1) ls st (si m o j.toNat a) cc cs) : qJ G md R F pc ls (vI a :: vI j :: vR o :: st) m cc cs := by
  intro p e s mm args below meth c C H locs lsc hH hz hS hl
  subst hn
  refine va_zast C.x C.b C.T.1 hH.2.1 (qws_D G m) (qS0 hS) o 3 (arrI_at ho hk (Or.inr (Or.inr rfl))) rfl (zi_in h0 h1 h2) (C.d.at hd) (fun H1 locs1 hP1 _ hS1 => ?_)
  rw [zi_nat h0 (by omega)] at hP1
  have hna : vp_nar .boolean (zi a) = zi a := by rcases h01 with rfl | rfl <;> rfl
  rw [hna] at hP1
  exact qgo kk C hH hz hS hl rfl ((qset_ai (G := G) (i := j.toNat) (a := a) m hk (Or.inr (Or.inr rfl)) rfl) ▸ hP1) hS1
theorem j_bast {o n : Nat} {j a : Int} (hd : qlk md.c pc = some (.bastore, 1)) (ho : o < mz m) (hk : mk m o = 15) (hn : mn m o = n) (h0 : 0 ≤ j) (h1 : j < n) (h2 : n < 2147483648)
    (kk : qJ G md R F (pc + 1) ls st (si m o j.toNat (z_i2b a)) cc cs) : qJ G md R F pc ls (vI a :: vI j :: vR o :: st) m cc cs := by
  intro p e s mm args below meth c C H locs lsc hH hz hS hl
  subst hn
  refine va_bast C.x C.b C.T.1 hH.2.1 (qws_D G m) (qS0 hS) o 2 (arrI_at ho hk (Or.inr (Or.inl rfl))) rfl (zi_in h0 h1 h2) (C.d.at hd) (fun H1 locs1 hP1 _ hS1 => ?_)
  rw [zi_nat h0 (by omega)] at hP1
  have hna : vp_nar .byte (zi a) = zi (z_i2b a) := by rw [zi_i2b]; rfl
  rw [hna] at hP1
  exact qgo kk C hH hz hS hl rfl ((qset_ai (G := G) (i := j.toNat) (a := z_i2b a) m hk (Or.inr (Or.inl rfl)) rfl) ▸ hP1) hS1
theorem qset_al (m : AM) {o i : Nat} {a : Int} (hk : mk m o = 14) {f : Nat → Int64} (hf : ∀ j, f j = if j = i then zl a else zl (ml m o j)) : (qws G m).set o (G.HB.size + o, .inl (G.tA 1, mn m o, .inr (.inl f))) = qws G (sl m o i a) := by
  refine qws_set (m := m) (m' := sl m o i a) rfl (fun n hn => cellE_sl m hn) ?_
  have e : f = fun j => zl (ml (sl m o i a) o j) := by
    funext j
    rw [hf]
    by_cases h : j = i
    · subst h
      rw [zml_sl_same, if_pos rfl]
    · rw [ml_sl_ne m a (fun q => h q.2), if_neg h]
  rw [e]
  unfold cellE aE
  rw [mk_sl, hk]
  rfl
theorem j_last {o n : Nat} {j a : Int} (hd : qlk md.c pc = some (.lastore, 1)) (ho : o < mz m) (hk : mk m o = 14) (hn : mn m o = n) (h0 : 0 ≤ j) (h1 : j < n) (h2 : n < 2147483648)
    (kk : qJ G md R F (pc + 1) ls st (sl m o j.toNat a) cc cs) : qJ G md R F pc ls (vL a :: vI j :: vR o :: st) m cc cs := by
  intro p e s mm args below meth c C H locs lsc hH hz hS hl
  subst hn
  refine va_last C.x C.b C.T.1 hH.2.1 (qws_D G m) (qS0 hS) o 1 (arrL_at ho hk) rfl (zi_in h0 h1 h2) (C.d.at hd) (fun H1 locs1 hP1 _ hS1 => ?_)
  rw [zi_nat h0 (by omega)] at hP1
  exact qgo kk C hH hz hS hl rfl ((qset_al (G := G) (i := j.toNat) (a := a) m hk (fun _ => rfl)) ▸ hP1) hS1
theorem qset_ar (m : AM) {o k i v : Nat} (hk : mk m o = k) (h1 : 17 ≤ k) {f : Nat → Option Nat} (hf : ∀ j, f j = if j = i then some (G.HB.size + v) else (mr m o j).map (G.HB.size + ·)) : (qws G m).set o (G.HB.size + o, .inl (G.tA (k - 13), mn m o, .inr (.inr (.inr (.inr f))))) = qws G (sr m o i (some v)) := by
  refine qws_set (m := m) (m' := sr m o i (some v)) rfl (fun n hn => cellE_sr m hn) ?_
  have e : f = fun j => (mr (sr m o i (some v)) o j).map (G.HB.size + ·) := by
    funext j
    rw [hf]
    by_cases h : j = i
    · subst h
      rw [mr_sr_same, if_pos rfl]
      rfl
    · rw [mr_sr_ne m _ (fun q => h q.2), if_neg h]
  rw [e]
  unfold cellE aE
  rw [mk_sr, hk, if_neg (by omega), if_neg (by omega), if_neg (by omega)]
  rfl
theorem j_aast {o n k v ci : Nat} {r : vw_C} {j : Int} (hd : qlk md.c pc = some (.aastore, 1)) (ho : o < mz m) (hk : mk m o = k) (hn : mn m o = n) (h0 : 0 ≤ j) (h1 : j < n) (h2 : n < 2147483648) (hv : v < mz m) (hkv : mk m v = ci) (hci : ci < 13) (hc : nbC[ci]? = some r) (he : qEl k r.1)
    (kk : qJ G md R F (pc + 1) ls st (sr m o j.toNat (some v)) cc cs) : qJ G md R F pc ls (vR v :: vI j :: vR o :: st) m cc cs := by
  intro p e s mm args below meth c C H locs lsc hH hz hS hl
  subst hn
  refine va_astq C.x C.b C.T.1 hH.2.1 (qws_D G m) (qS0 hS) o (k - 13) v ci (arrR_at ho hk he.ge) he.ty (obj_at hv hkv hci) hc (zi_in h0 h1 h2) (C.d.at hd) (fun H1 locs1 hP1 _ hS1 => ?_)
  rw [zi_nat h0 (by omega)] at hP1
  exact qgo kk C hH hz hS hl rfl ((qset_ar (G := G) (i := j.toNat) (v := v) m hk he.ge (fun _ => rfl)) ▸ hP1) hS1
/-! ends -/
theorem j_iret {Rp : Option Vl → AM → Prop} {mc ms : Nat} {a : Int} (hd : qlk md.c pc = some (.ireturn, 1)) (hr : md.r = some .int) (hR : Rp (some (vI a)) m) (hc : cc = mc) (hs : cs ≤ ms) : qJ G md R (qF G Rp mc ms) pc ls [vI a] m cc cs := by
  intro p e s mm args below meth c C H locs lsc hH hz hS hl
  subst hc
  refine W.widen (Nat.le_refl _) hs ?_
  exact W.iret C.x C.b (C.r.trans hr) (fun t ht hW => ⟨some (vI a), m, rfl, hR, by rw [ht]; exact hH, by rw [ht]; exact hz⟩) hS.2.2 (C.d.at hd) C.k
theorem j_zret {Rp : Option Vl → AM → Prop} {mc ms : Nat} {a : Int} (hd : qlk md.c pc = some (.ireturn, 1)) (hr : md.r = some .boolean) (h01 : a = 0 ∨ a = 1) (hR : Rp (some (vI a)) m) (hc : cc = mc) (hs : cs ≤ ms) : qJ G md R (qF G Rp mc ms) pc ls [vI a] m cc cs := by
  intro p e s mm args below meth c C H locs lsc hH hz hS hl
  subst hc
  refine W.widen (Nat.le_refl _) hs ?_
  exact W.zret C.x C.b (C.r.trans hr) (fit_z h01).1 (fun t ht hW => ⟨some (vI a), m, rfl, hR, by rw [ht]; exact hH, by rw [ht]; exact hz⟩) hS.2.2 (C.d.at hd) C.k
theorem j_lret {Rp : Option Vl → AM → Prop} {mc ms : Nat} {a : Int} (hd : qlk md.c pc = some (.lreturn, 1)) (hr : md.r = some .long) (hR : Rp (some (vL a)) m) (hc : cc = mc) (hs : cs ≤ ms) : qJ G md R (qF G Rp mc ms) pc ls [vL a] m cc cs := by
  intro p e s mm args below meth c C H locs lsc hH hz hS hl
  subst hc
  refine W.widen (Nat.le_refl _) hs ?_
  exact W.lret C.x C.b (C.r.trans hr) (fun t ht hW => ⟨some (vL a), m, rfl, hR, by rw [ht]; exact hH, by rw [ht]; exact hz⟩) hS.2.2 (C.d.at hd) C.k
theorem j_vret {Rp : Option Vl → AM → Prop} {mc ms : Nat} (hd : qlk md.c pc = some (.return_, 1)) (hr : md.r = none) (hR : Rp none m) (hc : cc = mc) (hs : cs ≤ ms) : qJ G md R (qF G Rp mc ms) pc ls [] m cc cs := by
  intro p e s mm args below meth c C H locs lsc hH hz hS hl
  subst hc
  refine W.widen (Nat.le_refl _) hs ?_
  exact W.vret C.x C.b (C.r.trans hr) (fun t ht hW => ⟨none, m, rfl, hR, by rw [ht]; exact hH, by rw [ht]; exact hz⟩) hS.2.2 (C.d.at hd) C.k
/-! calls -/
theorem qcall {Rp : Option Vl → AM → Prop} {mc2 ms2 : Nat} {a : Array Value} {rest : List Vl} {st0 : List Value} {p : Program} {e : Env} {s : State} {mm : MethodId} {args : Array Value} {below : List Frame} {meth : Method} {c : Code} {H : Heap} {locs : List Loc} {lsc : Array Slot}
    (C : qC G md p s mm args meth c) (hz : H.size = s.heap.size + cc) (hS : va_S (fun q => G.HB.size ≤ q) s.heap H locs) (hl : lv_has lsc md.n (lmap G ls))
    (hr : va_Run p G.l e R s mm args below meth c H locs cc cs mc2 ms2 (F0 mm pc lsc st0) (rest.map (qv G)) (qQ G mc2 Rp a) (fun q => G.HB.size ≤ q))
    (kk : ∀ (v : Option Vl) (m' : AM), Rp v m' → qJ G md R F (pc + 3) ls (v.toList ++ rest) m' (cc + mc2) (cs + ms2)) : W p G.l e R s mm args below meth c H locs cc cs (F below args s) (F0 mm pc lsc st0) := by
  intro T hT X
  obtain ⟨v, st₀, t, T', L, h0, X', hL, e1, e2, ⟨v', m', hv, hp, hH', hz'⟩, go⟩ := hr T hT X
  have ev : v = v'.map (qv G) := Outcome.returned.inj hv
  rw [h0] at hz'
  have k2 := kk v' m' hp p e s mm args below meth c C T'.heap (locs ++ L) lsc (by rw [e1]; exact hH') (by rw [e1, hz', hz]; exact Nat.add_assoc _ _ _) ⟨by rw [e1, hz', hz]; omega, fun q g1 g2 => by
      rw [e1, hH'.2.2 q (by omega)]
      exact (C.h q (by omega)).symm, fun q hq => by
      rcases List.mem_append.mp hq with h | h
      · exact hS.2.2 q h
      · exact hL q h⟩ hl T' rfl X'
  obtain ⟨t2, a1, b1⟩ := k2
  refine ⟨t2, go t2 ?_, b1⟩
  have es : (v'.toList ++ rest).map (qv G) = v.toList ++ rest.map (qv G) := by
    rw [ev]
    cases v' <;> rfl
  rw [es] at a1
  exact a1
theorem qPc_blind (G : QW) (as : List Value) (m : AM) : FrameBlind (va_Pc as (fun U => QH G m U.heap ∧ QT G U)) := fun a U g mk h => ⟨h.1, h.2.1, h.2.2.same (s := U) (U := U.calling g mk a) rfl⟩
def qcat (v : Vl) : Nat := if v.1 = 1 then 2 else 1
theorem qcat_sum (G : QW) (rest : List Vl) : ((rest.map (qv G)).map fun v => v.category).sum = (rest.map qcat).sum := by
  rw [List.map_map]
  congr 1
  apply List.map_congr_left
  intro v _
  show (qv G v).category = qcat v
  have h := qv_cat G v
  unfold qcat
  by_cases e : v.1 = 1
  · rw [if_pos e]
    rw [beq_iff_eq.mpr e] at h
    exact beq_iff_eq.mp h
  · rw [if_neg e]
    exact qv_c1 G e
theorem qGood {md2 : MD} (h : Cond.code md2.y md2.b md2.n md2.r ∈ tb) : GoodIn tb (.code md2.y md2.b md2.n md2.r :: tb) := fun w hw => by
  rcases List.mem_cons.mp hw with rfl | hw
  · exact tb_good _ h
  · exact tb_good w hw
def qCV (own : String) (i : Nat) (md2 : MD) : Prop := Cond.methodLink own i md2.y ∈ tb ∧ Cond.instanceMethod md2.y ∈ tb ∧ Cond.selects md2.y.cls md2.y md2.y ∈ tb
def qCS (own : String) (i : Nat) (md2 : MD) : Prop := Cond.methodLink own i md2.y ∈ tb ∧ Cond.static md2.y ∈ tb
def qCI (own : String) (i : Nat) (md2 : MD) : Prop := Cond.methodLink own i md2.y ∈ tb ∧ Cond.instanceMethod md2.y ∈ tb ∧ md2.y.name = "<init>" ∧ md2.r = none
def qCN (own : String) (i : Nat) (md2 : MD) : Prop := (own, i, md2.y) ∈ nestM ∧ Cond.instanceMethod md2.y ∈ tb ∧ md2.y.name = "<init>" ∧ md2.r = none
theorem j_callV {md2 : MD} {d2 mc2 ms2 na i o ci : Nat} {As rest sk : List Vl} {Rp : Option Vl → AM → Prop} (hd : qlk md.c pc = some (.invokevirtual i, 3)) (ok : qOK md2 na) (hk : qCV md.y.cls i md2) (hM : qM G md2 d2 mc2 ms2 (vR o :: As) m Rp) (hs : sk = As.reverse ++ vR o :: rest) (hn : As.length = na)
    (ho : o < mz m) (hko : mk m o = ci) (hci : ci < 13) (hcl : (nbC[ci]?).map (fun q => q.1) = some md2.y.cls) (hW : (rest.map qcat).sum ≤ 8) (hR : d2 + 1 ≤ R.frames ∧ 8 + (md2.n + 11) + 60 * d2 ≤ R.locals) (hf : cc + mc2 ≤ R.cells ∧ cs + ms2 ≤ R.slots)
    (kk : ∀ (v : Option Vl) (m' : AM), Rp v m' → qJ G md R F (pc + 3) ls (v.toList ++ rest) m' (cc + mc2) (cs + ms2)) : qJ G md R F pc ls sk m cc cs := by
  intro p e s mm args below meth c C H locs lsc hH hz hS hl
  subst hs
  obtain ⟨q, hq⟩ : ∃ q, nbC[ci]? = some q := by
    cases h : nbC[ci]? with
    | none => rw [h] at hcl; cases hcl
    | some q => exact ⟨q, rfl⟩
  have hqc : q.1 = md2.y.cls := by rw [hq] at hcl; exact Option.some.inj hcl
  obtain ⟨cell, g1, g2, g3⟩ := va_recv C.T.1 hH.2.1 hq (obj_at ho hko hci)
  have cb : CallB R s args md.y.cls i md2.y md2.b md2.n md2.r (.code md2.y md2.b md2.n md2.r :: tb) { frames := d2, cells := mc2, slots := ms2, locals := 60 * d2 } mc2 ms2 na := callB_of na C.t (qGood ok.2.2.1) rfl rfl rfl (C.t _ ok.2.2.2.1) (C.t _ hk.1) ⟨ok.2.2.2.2.1.1, ok.2.2.2.2.1.2, ok.2.2.2.2.2⟩ hR
  have es : (As.reverse ++ vR o :: rest).map (qv G) = (As.map (qv G)).reverse ++ .ref (G.HB.size + o) :: rest.map (qv G) := by
    rw [List.map_append, List.map_reverse]
    rfl
  rw [es]
  refine qcall C hz hS hl (va_runV (C := md2.y.cls) (b := G.HB.size + o) (As := As.map (qv G)) ⟨C.x, C.b, C.n, C.o, C.t⟩ hM ⟨cb, C.t _ hk.2.1, C.t _ hk.2.2⟩ ⟨qPc_blind G _ m, ⟨cell, g1, g2, by rw [← hqc]; exact g3⟩, fun U hU hW => ⟨rfl, by rw [hU]; exact hH, C.T.warm hW⟩⟩ rfl (by rw [List.length_map]; exact hn) hl.1 rfl (lv_room (by rw [qcat_sum]; exact hW)) (C.d.at hd) hf) kk
theorem j_callS {md2 : MD} {d2 mc2 ms2 na i : Nat} {As rest sk : List Vl} {Rp : Option Vl → AM → Prop} (hd : qlk md.c pc = some (.invokestatic i, 3)) (ok : qOK md2 na) (hk : qCS md.y.cls i md2) (hM : qM G md2 d2 mc2 ms2 As m Rp) (hs : sk = As.reverse ++ rest) (hn : As.length = na)
    (hW : (rest.map qcat).sum ≤ 8) (hR : d2 + 1 ≤ R.frames ∧ 8 + (md2.n + 11) + 60 * d2 ≤ R.locals) (hf : cc + mc2 ≤ R.cells ∧ cs + ms2 ≤ R.slots)
    (kk : ∀ (v : Option Vl) (m' : AM), Rp v m' → qJ G md R F (pc + 3) ls (v.toList ++ rest) m' (cc + mc2) (cs + ms2)) : qJ G md R F pc ls sk m cc cs := by
  intro p e s mm args below meth c C H locs lsc hH hz hS hl
  subst hs
  have cb : CallB R s args md.y.cls i md2.y md2.b md2.n md2.r (.code md2.y md2.b md2.n md2.r :: tb) { frames := d2, cells := mc2, slots := ms2, locals := 60 * d2 } mc2 ms2 na := callB_of na C.t (qGood ok.2.2.1) rfl rfl rfl (C.t _ ok.2.2.2.1) (C.t _ hk.1) ⟨ok.2.2.2.2.1.1, ok.2.2.2.2.1.2, ok.2.2.2.2.2⟩ hR
  have es : (As.reverse ++ rest).map (qv G) = (As.map (qv G)).reverse ++ rest.map (qv G) := by
    rw [List.map_append, List.map_reverse]
  rw [es]
  refine qcall C hz hS hl (va_runS (As := As.map (qv G)) ⟨C.x, C.b, C.n, C.o, C.t⟩ hM ⟨cb, C.t _ hk.2⟩ ⟨qPc_blind G _ m, fun U hU hW => ⟨rfl, by rw [hU]; exact hH, C.T.warm hW⟩⟩ rfl (by rw [List.length_map]; exact hn) hl.1 rfl (lv_room (by rw [qcat_sum]; exact hW)) (C.d.at hd) hf) kk
theorem j_callI {md2 : MD} {d2 mc2 ms2 na i o : Nat} {As rest sk : List Vl} {Rp : Option Vl → AM → Prop} (hd : qlk md.c pc = some (.invokespecial i, 3)) (ok : qOK md2 na) (hk : qCI md.y.cls i md2) (hM : qM G md2 d2 mc2 ms2 (vR o :: As) m Rp) (hs : sk = As.reverse ++ vR o :: rest) (hn : As.length = na)
    (hW : (rest.map qcat).sum ≤ 8) (hR : d2 + 1 ≤ R.frames ∧ 8 + (md2.n + 11) + 60 * d2 ≤ R.locals) (hf : cc + mc2 ≤ R.cells ∧ cs + ms2 ≤ R.slots)
    (kk : ∀ (v : Option Vl) (m' : AM), Rp v m' → qJ G md R F (pc + 3) ls (v.toList ++ rest) m' (cc + mc2) (cs + ms2)) : qJ G md R F pc ls sk m cc cs := by
  intro p e s mm args below meth c C H locs lsc hH hz hS hl
  subst hs
  have cb : CallB R s args md.y.cls i md2.y md2.b md2.n md2.r (.code md2.y md2.b md2.n md2.r :: tb) { frames := d2, cells := mc2, slots := ms2, locals := 60 * d2 } mc2 ms2 na := callB_of na C.t (qGood ok.2.2.1) rfl rfl rfl (C.t _ ok.2.2.2.1) (C.t _ hk.1) ⟨ok.2.2.2.2.1.1, ok.2.2.2.2.1.2, ok.2.2.2.2.2⟩ hR
  have es : (As.reverse ++ vR o :: rest).map (qv G) = (As.map (qv G)).reverse ++ .ref (G.HB.size + o) :: rest.map (qv G) := by
    rw [List.map_append, List.map_reverse]
    rfl
  rw [es]
  rw [hk.2.2.2] at cb
  refine qcall C hz hS hl (va_runI (b := G.HB.size + o) (As := As.map (qv G)) ⟨C.x, C.b, C.n, C.o, C.t⟩ hM ⟨by rw [hk.2.2.2]; exact cb, hk.2.2.1, C.t _ hk.2.1⟩ ⟨qPc_blind G _ m, fun U hU hW => ⟨rfl, by rw [hU]; exact hH, C.T.warm hW⟩⟩ rfl (by rw [List.length_map]; exact hn) hl.1 rfl (lv_room (by rw [qcat_sum]; exact hW)) (C.d.at hd) hf) kk
theorem j_callN {md2 : MD} {d2 mc2 ms2 na i o : Nat} {As rest sk : List Vl} {Rp : Option Vl → AM → Prop} (hd : qlk md.c pc = some (.invokespecial i, 3)) (ok : qOK md2 na) (hk : qCN md.y.cls i md2) (hM : qM G md2 d2 mc2 ms2 (vR o :: As) m Rp) (hs : sk = As.reverse ++ vR o :: rest) (hn : As.length = na)
    (hW : (rest.map qcat).sum ≤ 8) (hR : d2 + 1 ≤ R.frames ∧ 8 + (md2.n + 11) + 60 * d2 ≤ R.locals) (hf : cc + mc2 ≤ R.cells ∧ cs + ms2 ≤ R.slots)
    (kk : ∀ (v : Option Vl) (m' : AM), Rp v m' → qJ G md R F (pc + 3) ls (v.toList ++ rest) m' (cc + mc2) (cs + ms2)) : qJ G md R F pc ls sk m cc cs := by
  intro p e s mm args below meth c C H locs lsc hH hz hS hl
  subst hs
  have hn0 := va_cnB (R := R) (args := args) (mc := mc2) (ms := ms2) (rm := { frames := d2, cells := mc2, slots := ms2, locals := 60 * d2 }) na C.t (qGood ok.2.2.1) rfl rfl rfl (C.T.2.2.1.1 _ hk.1) (C.t _ ok.2.2.2.1) ⟨ok.2.2.2.2.1.1, ok.2.2.2.2.1.2, ok.2.2.2.2.2⟩ hR
  have es : (As.reverse ++ vR o :: rest).map (qv G) = (As.map (qv G)).reverse ++ .ref (G.HB.size + o) :: rest.map (qv G) := by
    rw [List.map_append, List.map_reverse]
    rfl
  rw [es]
  dsimp only at hn0
  refine qcall C hz hS hl (va_runIN (b := G.HB.size + o) (As := As.map (qv G)) ⟨C.x, C.b, C.n, C.o, C.t⟩ hM ⟨by rw [← hk.2.2.2]; exact hn0, hk.2.2.1, C.t _ hk.2.1⟩ ⟨qPc_blind G _ m, fun U hU hW => ⟨rfl, by rw [hU]; exact hH, C.T.warm hW⟩⟩ rfl (by rw [List.length_map]; exact hn) hl.1 rfl (lv_room (by rw [qcat_sum]; exact hW)) (C.d.at hd) hf) kk
/-- Object's constructor -/
theorem j_obj {i o : Nat} (hd : qlk md.c pc = some (.invokespecial i, 3)) (h1 : Cond.methodLink md.y.cls i objectInit ∈ tb) (h2 : Cond.instanceMethod objectInit ∈ tb) (h3 : Cond.code objectInit ⟨#[0xb1]⟩ 1 none ∈ tb) (hW : (st.map qcat).sum + 12 ≤ R.locals) (hR : 1 ≤ R.frames)
    (kk : qJ G md R F (pc + 3) ls st m cc cs) : qJ G md R F pc ls (vR o :: st) m cc cs := by
  intro p e s mm args below meth c C H locs lsc hH hz hS hl
  refine W.objInit C.x C.b C.o (C.t _ h1) (C.t _ h2) (C.t _ h3) rfl (by rw [C.n]; exact hl.1) rfl (C.d.at hd) hR (by show 2 * 0 + _ + 12 ≤ _; rw [qcat_sum]; omega) ?_
  exact kk p e s mm args below meth c C H locs lsc hH hz hS hl
/-- fewer known locals, in another order -/
theorem j_loc {ls' : List (Nat × Vl)} (h : ls'.map (fun q => llk ls q.1) = ls'.map (fun q => some q.2)) (kk : qJ G md R F pc ls' st m cc cs) : qJ G md R F pc ls st m cc cs := by
  intro p e s mm args below meth c C H locs lsc hH hz hS hl
  refine kk p e s mm args below meth c C H locs lsc hH hz hS ⟨hl.1, hl.2.1, fun q hq => ?_⟩
  obtain ⟨x, hx, rfl⟩ := List.mem_map.mp hq
  have h2 : llk ls x.1 = some x.2 := by
    obtain ⟨k, hk⟩ := List.getElem?_of_mem hx
    have := congrArg (fun l => l[k]?) h
    simp only [List.getElem?_map, hk, Option.map_some] at this
    exact Option.some.inj this
  exact lmap_at hl h2
end QA

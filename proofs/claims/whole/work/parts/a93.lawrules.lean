/-! the law: rules for its walk -/
def yLaw : MethodName := ⟨R_law, "law", "([I)Z"⟩
/-- the law, with a piece of its instructions -/
abbrev mLw (il : List (Nat × Instr × Nat)) : MD := (yLaw, code, 4, ret, il)
/-- what the law comes to -/
def LF (G : QW) : QFin := fun below args s t => s.heap.size = G.HB.size → lw_Z below args s t
/-- the law's locals in its loop -/
abbrev lawL (i : Int) : List (Nat × Vl) := [(3, vI i), (2, vR 86), (1, vR 0), (0, vO 0)]
theorem ox1 (x : Int32) : -2147483648 ≤ x.toInt := Int32.minValue_le_toInt _
theorem ox2 (x : Int32) : x.toInt < 2147483648 := Int32.toInt_lt _
section QLW
variable {G : QW} {md : MD} {R : Room} {F : QFin} {pc : Nat} {ls : List (Nat × Vl)} {st : List Vl} {m : AM} {cc cs : Nat}
theorem j_with {il il' : List (Nat × Instr × Nat)} (hD : qDec (mLw il')) (k : qJ G (mLw il') R F pc ls st m cc cs) : qJ G (mLw il) R F pc ls st m cc cs := by
  intro p e s mm args below meth c C H locs lsc hH hz hS hl
  exact k p e s mm args below meth c ⟨C.x, C.b, C.n, C.o, C.t, C.r, C.k, C.nm, C.T, C.hs, hD, C.h⟩ H locs lsc hH hz hS hl
theorem j_aloadO_n {i : Fin 4} {o : Nat} (hd : qlk md.c pc = some (.aload_n i, 1)) (h : llk ls (i : Nat) = some (vO o)) (k : qJ G md R F (pc + 1) (ls) (vO o :: st) (m) (cc) (cs)) : qJ G md R F (pc) (ls) (st) (m) (cc) (cs) := by
  intro p e s mm args below meth c C H locs lsc hH hz hS hl
  exact lv_aload_n C.x C.b (C.d.at hd) rfl (lmap_at hl h) (k p e s mm args below meth c C H locs lsc hH hz hS hl)
/-- the same stack, otherwise written -/
theorem j_st {st' : List Vl} (h : st'.map (qv G) = st.map (qv G)) (k : qJ G md R F pc ls st' m cc cs) : qJ G md R F pc ls st m cc cs := by
  intro p e s mm args below meth c C H locs lsc hH hz hS hl
  have w := k p e s mm args below meth c C H locs lsc hH hz hS hl
  rw [h] at w
  exact w
theorem qv_nI (a : Int) : qv G (vI (zi a).toInt) = qv G (vI a) := by
  show Value.int (zi (zi a).toInt) = Value.int (zi a)
  rw [zi_of]
theorem qv_nL (a : Int) : qv G (vL (zl a).toInt) = qv G (vL a) := by
  show Value.long (zl (zl a).toInt) = Value.long (zl a)
  rw [zl_of]
theorem j_icmp_same {a : Int} {off : Int} {tgt : Nat} (hd : qlk md.c pc = some (.if_icmp .eq off, 3)) (ht : (pc : Int) + off = (tgt : Int)) (k : qJ G md R F tgt ls st m cc cs) : qJ G md R F pc ls (vI a :: vI a :: st) m cc cs := by
  refine j_st (st' := vI (zi a).toInt :: vI (zi a).toInt :: st) (by rw [List.map_cons, List.map_cons, List.map_cons, List.map_cons, qv_nI]) ?_
  exact j_icmp_eq hd ht (ox1 _) (ox2 _) (ox1 _) (ox2 _) (fun _ => k) (fun h => absurd rfl h)
theorem j_lcmp_same {a : Int} {off : Int} {tgt : Nat} (hd : qlk md.c pc = some (.lcmp, 1)) (hd2 : qlk md.c (pc + 1) = some (.ifCond .eq off, 3)) (ht : ((pc + 1 : Nat) : Int) + off = (tgt : Int)) (k : qJ G md R F tgt ls st m cc cs) : qJ G md R F pc ls (vL a :: vL a :: st) m cc cs := by
  refine j_st (st' := vL (zl a).toInt :: vL (zl a).toInt :: st) (by rw [List.map_cons, List.map_cons, List.map_cons, List.map_cons, qv_nL]) ?_
  refine j_lcmp hd (Int64.minValue_le_toInt _) (Int64.toInt_lt _) (Int64.minValue_le_toInt _) (Int64.toInt_lt _) ?_
  rw [if_neg (Int.lt_irrefl _), if_pos rfl]
  exact j_if_eq hd2 ht (by decide) (by decide) (fun _ => k) (fun h => absurd rfl h)
/-- one int of the script -/
theorem j_arg {i k : Int} (hd0 : qlk md.c pc = some (.aload_n 0, 1)) (hd1 : qlk md.c (pc + 1) = some (.iload_n 3, 1)) (hd2 : qlk md.c (pc + 2) = some (.iconst k, 1)) (hd3 : qlk md.c (pc + 3) = some (.iadd, 1)) (hd4 : qlk md.c (pc + 4) = some (.iaload, 1)) (h0 : 0 ≤ i + k) (h1 : i + k < (G.oL 0 : Int)) (hL : G.oL 0 ≤ 3072)
    (kk : qJ G md R F (pc + 5) (lawL i) (vI (G.ox 0 (i + k).toNat).toInt :: st) m cc cs) : qJ G md R F pc (lawL i) st m cc cs := by
  refine j_aloadO_n hd0 rfl ?_
  refine j_iload_n hd1 rfl ?_
  refine j_iconst hd2 ?_
  refine j_iadd hd3 ?_
  exact j_oald hd4 (by decide) h0 h1 (by omega) kk
end QLW
/-- the law's own end -/
theorem lw_retA {p : Program} {l : Launch} {e : Env} {s : State} {m : MethodId} {below : List Frame} {meth : Method} {c : Code} {args : Array Value} (hx : p.tables.exec = Jvm.exec) (hb : c.code = code) (hr : meth.sig.returnType = ret) (hlocks : meth.locks = false) {pc : Nat} {H : Heap} {ls : Array Slot} (hdg : decode code pc = .ok (.ireturn, 1)) : W p l e room_1 s m args below meth c H [] 600000 7302250 (lw_Z below args s) (F0 m pc ls [.int 1]) := by
  intro T hT X
  obtain ⟨fs, hret, hrun, hended, hW, hframe⟩ := X.leave (v := some (.int 1)) (hlocks := hlocks) (fun h => by rw [hr] at h; cases h)
  have hmeth' : T.vm.method? m = some meth := X.method'
  refine ⟨T.setFrames fs, ?_, .returned (some (.int 1)), hrun, hended, rfl, ⟨_, rfl⟩, hW, hframe⟩
  jvm_step X.here [X.here.top, hx, hb, hdg, hmeth', hr, ret, narrow_b1]
  (try refine ⟨rfl, ?_⟩); (try refine ⟨rfl, ?_⟩)
  first | (intro acts; rw [hret _ acts rfl rfl rfl]) | rw [hret _ _ rfl rfl rfl]
  exact Steps.refl _
theorem j_law {G : QW} {il : List (Nat × Instr × Nat)} {pc : Nat} {ls : List (Nat × Vl)} {m : AM} {cc cs : Nat} (hd : qlk il pc = some (.ireturn, 1)) (hc : cc ≤ 600000) (hs : cs ≤ 7302250) : qJ G (mLw il) room_1 (LF G) pc ls [vI 1] m cc cs := by
  intro p e s mm args below meth c C H locs lsc hH hz hS hl
  by_cases hq : s.heap.size = G.HB.size
  · refine W.widen hc hs ?_
    refine va_forget (fun q h => by have : G.HB.size ≤ q.base := hS.2.2 q h; omega) ?_
    have e1 : List.map (qv G) [vI 1] = [Value.int 1] := congrArg (fun z => [Value.int z]) (show zi 1 = (1 : Int32) by decide)
    rw [e1]
    intro T hT X
    obtain ⟨t, a, b⟩ := lw_retA (pc := pc) C.x C.b C.r C.k (C.d.at hd) T hT X
    exact ⟨t, a, fun _ => b⟩
  · intro T hT X
    exact ⟨_, Steps.refl _, fun h => absurd h hq⟩
/-- the law's entry -/
theorem law_enter {G : QW} {il : List (Nat × Instr × Nat)} (hD : qDec (mLw il)) {p : Program} {e : Env} {s : State} {m : MethodId} {below : List Frame} {meth : Method} {c : Code} {b L : Nat} {xs : Nat → Int32} (C0 : lw_At p s m meth c b L xs) (hn : meth.name = "law") (hG : G.HB = s.heap) (h0 : G.old 0 = b) (hT : QT G s) (k : qJ G (mLw il) room_1 (LF G) 0 [(0, vO 0)] [] am0 0 0) : W p G.l e room_1 s m #[Value.ref b] below meth c s.heap [] 0 0 (lw_Z below #[Value.ref b] s) (entryFrame m ([Value.ref b] : List Value).toArray 4) := by
  obtain ⟨hx, hb, hr, hml, hown, hts, hX, hbl, hlocks, hgv⟩ := C0
  have hl := lv_entry ([.ref b]) (n := 4) (Nat.le_of_ble_eq_true rfl)
  rw [lg_entry_eq]
  generalize (lg_sl ([.ref b]) ++ List.replicate (4 - (lg_sl ([.ref b])).length) Slot.unset).toArray = ls at hl ⊢
  have hl2 : lv_has ls 4 (lmap G [(0, vO 0)]) := by
    have e : lmap G [(0, vO 0)] = [(0, Value.ref b)] := by
      show [(0, Value.ref (G.old 0))] = _
      rw [h0]
    rw [e]
    exact hl
  have e0 : qws G am0 = [] := rfl
  have w := k p e s m #[Value.ref b] below meth c ⟨hx, hb, hml, hown, tb_lw hts, hr, hlocks, hn, hT, by rw [hG]; exact Nat.le_refl _, hD, fun q _ => by rw [hG]⟩ s.heap [] ls ⟨by rw [hG]; rfl, by rw [e0]; exact fun k q h => by simp at h, fun q _ => by rw [hG]⟩ rfl va_S.rf hl2
  intro T hT2 X
  obtain ⟨t, a, b'⟩ := w T hT2 X
  exact ⟨t, a, b' (by rw [hG])⟩

/-! how the class reads, into a program at q -/
def nxC (m : AM) (x : Int) : Int := if x < mi m 1 1 then mi m 2 x.toNat else -1
/-- its byte there, as a number that may be below 0 -/
def chC (m : AM) (x : Int) : Int := if x < mi m 1 1 then (if mi m 2 x.toNat > 127 then mi m 2 x.toNat - 256 else mi m 2 x.toNat) else -1
def BY (m : AM) : Prop := (0 ≤ mi m 1 1 ∧ mi m 1 1 ≤ 160) ∧ ∀ j : Nat, 0 ≤ mi m 2 j ∧ mi m 2 j ≤ 255
theorem chC_end {m : AM} : ∀ x, mi m 1 1 ≤ x → chC m x < 0 := fun x h => by unfold chC; rw [if_neg (by omega)]; decide
theorem nxC_ch {m : AM} (h : BY m) (x : Int) : (-1 ≤ nxC m x ∧ nxC m x ≤ 127 ∧ chC m x = nxC m x) ∨ (128 ≤ nxC m x ∧ nxC m x ≤ 255 ∧ chC m x = nxC m x - 256) := by
  have g := h.2 x.toNat
  unfold nxC chC
  split
  · split <;> omega
  · omega
/-- what reading leaves as it was -/
def FC (q : Nat) (m N : AM) : Prop := N.2 = m.2 ∧ ∀ o j : Nat, ¬ (o = q + 1 ∨ (o = q ∧ j = 5)) → ¬ (o = 1 ∧ (j = 2 ∨ j = 3)) → N.1 o j = m.1 o j
theorem FC.rf (q : Nat) (m : AM) : FC q m m := ⟨rfl, fun _ _ _ _ => rfl⟩
theorem FC.trans {q : Nat} {m M N : AM} (h : FC q m M) (h2 : FC q M N) : FC q m N := ⟨h2.1.trans h.1, fun o j a b => (h2.2 o j a b).trans (h.2 o j a b)⟩
theorem FC.cell {q : Nat} {m N : AM} (h : FC q m N) {o j : Nat} (h1 : ¬ (o = q + 1 ∨ (o = q ∧ j = 5))) (h2 : ¬ (o = 1 ∧ (j = 2 ∨ j = 3))) : mi N o j = mi m o j := by
  show (zi (N.1 o j)).toInt = (zi (m.1 o j)).toInt
  rw [h.2 o j h1 h2]
theorem FC.one {q : Nat} {m N : AM} (h : FC q m N) {o k : Nat} (hk : (o = q + 1 ∨ (o = q ∧ k = 5)) ∨ (o = 1 ∧ (k = 2 ∨ k = 3))) (v : Int) : FC q m (si N o k v) := ⟨h.1, fun p j h1 h2 => by
  show (if p = o ∧ j = k then v else N.1 p j) = m.1 p j
  rw [if_neg (by rintro ⟨rfl, rfl⟩; omega)]
  exact h.2 p j h1 h2⟩
/-- the ground of all: the cells, the program, the tape -/
def CG (q : Nat) (m : AM) : Prop := St m ∧ (62 ≤ q) ∧ ObA m q 5 fsProg ∧ mr m 1 4 = some q ∧ BY m
theorem FC.cg {q : Nat} {m N : AM} (h : FC q m N) (g : CG q m) : CG q N := by
  obtain ⟨a, b, c, d, e⟩ := g
  refine ⟨a.sub (by rw [h.1]), b, ?_, ?_, ⟨?_, fun j => ?_⟩⟩
  · unfold ObA mz mk mn mr at *
    rw [h.1]
    exact c
  · unfold mr at *
    rw [h.1]
    exact d
  · rw [h.cell (by omega) (by omega)]
    exact e.1
  · rw [h.cell (by omega) (by omega)]
    exact e.2 j
theorem FC.ch {q : Nat} {m N : AM} (h : FC q m N) (hq : 62 ≤ q) : chC N = chC m := by
  funext x
  unfold chC
  rw [h.cell (by omega) (by omega), h.cell (by omega) (by omega)]
theorem FC.nx {q : Nat} {m N : AM} (h : FC q m N) (hq : 62 ≤ q) : nxC N = nxC m := by
  funext x
  unfold nxC
  rw [h.cell (by omega) (by omega), h.cell (by omega) (by omega)]
/-- a word as the class lays it -/
def wdC (x : Nat × Int) : Int := z_ior (z_ishl x.1 20) x.2
def WC (q : Nat) (m : AM) (out : List (Nat × Int)) : Prop := mi m q 5 = out.length ∧ ∀ i : Nat, i < out.length → mi m (q + 1) i = wdC (out.getD i (0, 0))
def CS (q : Nat) (m : AM) (r : PRes) : Prop := match r with
  | .ok s => mi m 1 2 = s.1 ∧ mi m 1 3 = 0 ∧ WC q m s.2
  | .error p => mi m 1 2 = p ∧ mi m 1 3 = 1 ∧ 0 ≤ mi m q 5 ∧ mi m q 5 ≤ 160
theorem WC.other {q : Nat} {m : AM} {out : List (Nat × Int)} (h : WC q m out) {o k : Nat} (h1 : ¬ (o = q ∧ k = 5)) (h2 : o ≠ q + 1) (v : Int) : WC q (si m o k v) out :=
  ⟨(mi_si_ne _ _ (by omega)).trans h.1, fun i hi => (mi_si_ne _ _ (by omega)).trans (h.2 i hi)⟩
theorem CS.adv {q : Nat} {m : AM} {a : Int} {w : List (Nat × Int)} (hq : 62 ≤ q) (h : CS q m (.ok (a, w))) {b : Int} (h1 : -2147483648 ≤ b) (h2 : b < 2147483648) : CS q (si m 1 2 b) (.ok (b, w)) :=
  ⟨mi_si_same _ _ _ h1 h2, (mi_si_ne _ _ (by decide)).trans h.2.1, h.2.2.other (by omega) (by omega) _⟩
theorem CS.bad {q : Nat} {m : AM} {a : Int} {w : List (Nat × Int)} (hq : 62 ≤ q) (h : CS q m (.ok (a, w))) (hw : w.length ≤ 160) : CS q (si m 1 3 1) (.error a) := by
  have e : mi (si m 1 3 1) q 5 = w.length := (mi_si_ne _ _ (by omega)).trans h.2.2.1
  exact ⟨(mi_si_ne _ _ (by decide)).trans h.1, mi_si_same _ _ _ (by decide) (by decide), by rw [e]; omega, by rw [e]; omega⟩
theorem CS.bad2 {q : Nat} {m : AM} {p : Int} (hq : 62 ≤ q) (h : CS q m (.error p)) : CS q (si m 1 3 1) (.error p) := by
  have e : mi (si m 1 3 1) q 5 = mi m q 5 := mi_si_ne _ _ (by omega)
  exact ⟨(mi_si_ne _ _ (by decide)).trans h.1, mi_si_same _ _ _ (by decide) (by decide), by rw [e]; exact h.2.2.1, by rw [e]; exact h.2.2.2⟩
/-- a word is laid, if there is room -/
def apM (q : Nat) (m : AM) (what v : Int) : AM := FX5_append m q what v
theorem apM_fc {q : Nat} {m N : AM} (h : FC q m N) (what v : Int) : FC q m (apM q N what v) := by
  unfold apM FX5_append
  split
  · exact h
  · exact (h.one (Or.inl (by omega)) _).one (Or.inl (by omega)) _
theorem apM_ok {q : Nat} {m : AM} {a : Int} {w : List (Nat × Int)} (hq : 62 ≤ q) (h : CS q m (.ok (a, w))) (hw : w.length < 160) (what : Nat) (v : Int) : CS q (apM q m what v) (.ok (a, w ++ [(what, v)])) := by
  obtain ⟨h1, h2, h3, h4⟩ := h
  have e : apM q m what v = si (si m (q + 1) (mi m q 5).toNat (z_ior (z_ishl what 20) v)) q 5 (mi m q 5 + 1) := by
    unfold apM FX5_append
    rw [if_neg (by rw [h3]; dsimp only; omega), show mi (si m (q + 1) (mi m q 5).toNat (z_ior (z_ishl what 20) v)) q 5 = mi m q 5 from mi_si_ne _ _ (by omega)]
  rw [e]
  refine ⟨(mi_si_ne _ _ (by omega)).trans ((mi_si_ne _ _ (by omega)).trans h1), (mi_si_ne _ _ (by omega)).trans ((mi_si_ne _ _ (by omega)).trans h2), ?_, fun i hi => ?_⟩
  · dsimp only at h3 ⊢
    rw [mi_si_same _ _ _ (by omega) (by omega), h3, List.length_append]
    show ((w.length : Nat) : Int) + 1 = ((w.length + 1 : Nat) : Int)
    omega
  · dsimp only at h3 h4 hi ⊢
    rw [List.length_append] at hi
    have hi2 : i < w.length + 1 := hi
    rw [mi_si_ne _ _ (by omega)]
    by_cases z : i = w.length
    · subst z
      rw [h3, show ((w.length : Nat) : Int).toNat = w.length by omega, mi_si_same _ _ _ (z_ior_rng _ _).1 (z_ior_rng _ _).2]
      simp [wdC]
    · rw [h3, show ((w.length : Nat) : Int).toNat = w.length by omega, mi_si_ne _ _ (by omega), h4 i (by omega)]
      have hlt : i < w.length := by omega
      simp [List.getD, List.getElem?_append_left hlt]
theorem apM_bad {q : Nat} {m : AM} {p : Int} (hq : 62 ≤ q) (h : CS q m (.error p)) (what v : Int) : CS q (apM q m what v) (.error p) := by
  obtain ⟨h1, h2, h3, h4⟩ := h
  unfold apM FX5_append
  split
  · exact ⟨h1, h2, h3, h4⟩
  · rw [show mi (si m (q + 1) (mi m q 5).toNat (z_ior (z_ishl what 20) v)) q 5 = mi m q 5 from mi_si_ne _ _ (by omega)]
    have e : mi (si (si m (q + 1) (mi m q 5).toNat (z_ior (z_ishl what 20) v)) q 5 (mi m q 5 + 1)) q 5 = mi m q 5 + 1 := mi_si_same _ _ _ (by omega) (by omega)
    exact ⟨(mi_si_ne _ _ (by omega)).trans ((mi_si_ne _ _ (by omega)).trans h1), (mi_si_ne _ _ (by omega)).trans ((mi_si_ne _ _ (by omega)).trans h2), by rw [e]; omega, by rw [e]; omega⟩

set_option maxRecDepth 20000 in
theorem ct_X6_next {G : QW} {q : Nat} {m : AM} {a : Int} {w : List (Nat × Int)} (g : CG q m) (h : CS q m (.ok (a, w))) (h0 : 0 ≤ a) : qM G mX6_next 0 0 0 [vR 1] m (fun r m' => r = some (vI (nxC m a)) ∧ m' = m) := by
  refine qM.intro okX6_next (Nat.le_of_ble_eq_true rfl) ?_
  have hS := g.1
  have e2 : mi m 1 2 = a := h.1
  have e3 : mi m 1 3 = 0 := h.2.1
  have e1 := g.2.2.2.2.1
  rw [← e2]
  rw [← e2] at h0
  refine j_aload_n rfl rfl ?_
  refine j_getI rfl f_X6_22 rfl (hS.lt (by decide)) (hS.k (by decide) (by decide)) ?_
  have u1_1 := mi_rng m 1 3
  refine j_if_ne (tgt := 18) rfl (by decide) (by omega) (by omega) (fun hb4_1 => ?_) (fun hb4_1 => ?_)
  · skip
    exfalso; omega
  · skip
    refine j_aload_n rfl rfl ?_
    refine j_getI rfl f_X6_19 rfl (hS.lt (by decide)) (hS.k (by decide) (by decide)) ?_
    have u8_1 := mi_rng m 1 2
    refine j_aload_n rfl rfl ?_
    refine j_getI rfl f_X6_15 rfl (hS.lt (by decide)) (hS.k (by decide) (by decide)) ?_
    have u12_1 := mi_rng m 1 1
    refine j_icmp_lt (tgt := 22) rfl (by decide) (by omega) (by omega) (by omega) (by omega) (fun hb15_1 => ?_) (fun hb15_1 => ?_)
    · skip
      refine j_aload_n rfl rfl ?_
      refine j_getR (q := 2) rfl f_X6_9 rfl (hS.lt (by decide)) (hS.k (by decide) (by decide)) (hS.r (by decide)) ?_
      refine j_aload_n rfl rfl ?_
      refine j_getI rfl f_X6_19 rfl (hS.lt (by decide)) (hS.k (by decide) (by decide)) ?_
      have u27_1 := mi_rng m 1 2
      refine j_iald (n := 160) rfl (hS.lt (by decide)) (hS.k (by decide) (by decide)) (hS.n (by decide) (by decide)) (by omega) (by omega) (by decide) ?_
      have u30_1 := mi_rng m 2 (mi m 1 2).toNat
      refine j_iret rfl rfl ?_ rfl (Nat.le_refl _)
      exact ⟨by unfold nxC; first | (rw [if_pos (by omega)]; done) | (rw [if_neg (by omega)]; done), rfl⟩
    · skip
      refine j_iconst rfl ?_
      refine j_goto (tgt := 31) rfl (by decide) ?_
      refine j_iret rfl rfl ?_ rfl (Nat.le_refl _)
      exact ⟨by unfold nxC; first | (rw [if_pos (by omega)]; done) | (rw [if_neg (by omega)]; done), rfl⟩

theorem ct_X6_nextB {G : QW} {q : Nat} {m : AM} {p : Int} (g : CG q m) (h : CS q m (.error p)) : qM G mX6_next 0 0 0 [vR 1] m (fun r m' => r = some (vI (-1)) ∧ m' = m) := by
  refine qM.intro okX6_next (Nat.le_of_ble_eq_true rfl) ?_
  have hS := g.1
  have e3 : mi m 1 3 = 1 := h.2.1
  refine j_aload_n rfl rfl ?_
  refine j_getI rfl f_X6_22 rfl (hS.lt (by decide)) (hS.k (by decide) (by decide)) ?_
  have u1_1 := mi_rng m 1 3
  refine j_if_ne (tgt := 18) rfl (by decide) (by omega) (by omega) (fun hb4_1 => ?_) (fun hb4_1 => ?_)
  · skip
    refine j_iconst rfl ?_
    refine j_goto (tgt := 31) rfl (by decide) ?_
    refine j_iret rfl rfl ?_ rfl (Nat.le_refl _)
    exact ⟨rfl, rfl⟩
  · skip
    exfalso; omega


/-! how the reference reads -/
/-- the byte that lies there (below 0: none) -/
def chR (m : AM) (x : Int) : Int := if x < mi m 86 16 then mi m 100 x.toNat else -1
theorem chR_end (m : AM) : ∀ x, mi m 86 16 ≤ x → chR m x < 0 := fun x h => by unfold chR; rw [if_neg (by omega)]; decide
/-- what reading leaves as it was -/
def FP (m N : AM) : Prop := N.2 = m.2 ∧ ∀ o j : Nat, ¬ ((o = 98 ∨ o = 99) ∧ 1020 ≤ j) → ¬ (o = 86 ∧ 17 ≤ j ∧ j ≤ 20) → N.1 o j = m.1 o j
theorem FP.rf (m : AM) : FP m m := ⟨rfl, fun _ _ _ _ => rfl⟩
theorem FP.trans {m M N : AM} (h : FP m M) (h2 : FP M N) : FP m N := ⟨h2.1.trans h.1, fun o j a b => (h2.2 o j a b).trans (h.2 o j a b)⟩
theorem FP.cell {m N : AM} (h : FP m N) {o j : Nat} (h1 : ¬ ((o = 98 ∨ o = 99) ∧ 1020 ≤ j)) (h2 : ¬ (o = 86 ∧ 17 ≤ j ∧ j ≤ 20)) : mi N o j = mi m o j := by
  show (zi (N.1 o j)).toInt = (zi (m.1 o j)).toInt
  rw [h.2 o j h1 h2]
theorem FP.one {m N : AM} (h : FP m N) {o k : Nat} (hk : ((o = 98 ∨ o = 99) ∧ 1020 ≤ k) ∨ (o = 86 ∧ 17 ≤ k ∧ k ≤ 20)) (v : Int) : FP m (si N o k v) := ⟨h.1, fun p j h1 h2 => by
  show (if p = o ∧ j = k then v else N.1 p j) = m.1 p j
  rw [if_neg (by rintro ⟨rfl, rfl⟩; omega)]
  exact h.2 p j h1 h2⟩
theorem FP.ch {m N : AM} (h : FP m N) : chR N = chR m := by
  funext x
  unfold chR
  rw [h.cell (by omega) (by omega), h.cell (by omega) (by omega)]
theorem FP.st {m N : AM} (h : FP m N) (hS : St m) : St N := hS.sub (by rw [h.1])
/-- the words that are laid -/
def WR (m : AM) (out : List (Nat × Int)) : Prop := mi m 86 20 = out.length ∧ ∀ i : Nat, i < out.length → cdX m ((1020 : Int) + i) = out.getD i (0, 0)
def PS (m : AM) (a o : Int) (out : List (Nat × Int)) : Prop := mi m 86 17 = a ∧ mi m 86 18 = -1 ∧ mi m 86 19 = o ∧ WR m out
def PX (m : AM) (a len p : Int) : Prop := mi m 86 18 = p ∧ 0 ≤ p ∧ a ≤ mi m 86 17 ∧ mi m 86 17 ≤ mi m 86 16 ∧ 0 ≤ mi m 86 20 ∧ mi m 86 20 ≤ len + (mi m 86 17 - a) + 1
def PY (m : AM) (a o : Int) (out : List (Nat × Int)) (r : PRes) : Prop := match r with
  | .ok s => PS m s.1 o s.2
  | .error p => PX m a out.length p
def PR (m N : AM) (a o : Int) (out : List (Nat × Int)) (r : PRes) : Prop := FP m N ∧ IM N ∧ PY N a o out r
theorem WR.other {m : AM} {out : List (Nat × Int)} (h : WR m out) {k : Nat} (hk : k ≠ 20) (v : Int) : WR (si m 86 k v) out := by
  refine ⟨(mi_si_ne _ _ (by omega)).trans h.1, fun i hi => ?_⟩
  rw [← h.2 i hi]
  unfold cdX
  rw [mi_si_ne _ _ (by omega), mi_si_ne _ _ (by omega)]
theorem IM.read {m : AM} (h : IM m) {k : Nat} (hk : 17 ≤ k ∧ k ≤ 20) (v : Int) : IM (si m 86 k v) := by
  have hk4 : k = 17 ∨ k = 18 ∨ k = 19 ∨ k = 20 := by omega
  rcases hk4 with rfl | rfl | rfl | rfl <;> exact h.one (by decide) (by decide) (by decide) (by decide) (fun j hj e => absurd e.1 (by omega)) (by decide)
theorem PS.adv {m : AM} {a o : Int} {out : List (Nat × Int)} (h : PS m a o out) {b : Int} (h1 : -2147483648 ≤ b) (h2 : b < 2147483648) : PS (si m 86 17 b) b o out :=
  ⟨mi_si_same _ _ _ h1 h2, (mi_si_ne _ _ (by decide)).trans h.2.1, (mi_si_ne _ _ (by decide)).trans h.2.2.1, h.2.2.2.other (by decide) _⟩
theorem PS.nest {m : AM} {a o : Int} {out : List (Nat × Int)} (h : PS m a o out) {b : Int} (h1 : -2147483648 ≤ b) (h2 : b < 2147483648) : PS (si m 86 19 b) a b out :=
  ⟨(mi_si_ne _ _ (by decide)).trans h.1, (mi_si_ne _ _ (by decide)).trans h.2.1, mi_si_same _ _ _ h1 h2, h.2.2.2.other (by decide) _⟩
theorem PS.bad {m : AM} {a o : Int} {out : List (Nat × Int)} (h : PS m a o out) (h0 : 0 ≤ a) (h1 : a ≤ mi m 86 16) (h2 : a ≤ 160) {a0 len : Int} (h3 : a0 ≤ a) (h4 : (out.length : Int) ≤ len + (a - a0) + 1) : PX (si m 86 18 a) a0 len a := by
  have e : mi (si m 86 18 a) 86 17 = a := (mi_si_ne _ _ (by decide)).trans h.1
  have e2 : mi (si m 86 18 a) 86 20 = out.length := (mi_si_ne _ _ (by decide)).trans h.2.2.2.1
  have e3 : mi (si m 86 18 a) 86 16 = mi m 86 16 := mi_si_ne _ _ (by decide)
  exact ⟨mi_si_same _ _ _ (by omega) (by omega), h0, by rw [e]; exact h3, by rw [e, e3]; exact h1, by rw [e2]; omega, by rw [e, e2]; exact h4⟩
/-- a word is laid -/
def layM (m : AM) (what v : Int) : AM := si (si (si m 98 (1020 + mi m 86 20).toNat what) 99 (1020 + mi m 86 20).toNat v) 86 20 (mi m 86 20 + 1)
theorem layM_fp {m N : AM} (h : FP m N) {what v : Int} (h0 : 0 ≤ mi N 86 20) : FP m (layM N what v) := ((h.one (Or.inl ⟨Or.inl rfl, by omega⟩) _).one (Or.inl ⟨Or.inr rfl, by omega⟩) _).one (Or.inr (by omega)) _
theorem layM_im {m : AM} (h : IM m) {what v : Int} (hw : 0 ≤ what ∧ what ≤ 124) (hv : 0 ≤ v ∧ v ≤ 99999) : IM (layM m what v) := by
  have a : IM (si m 98 (1020 + mi m 86 20).toNat what) := h.cell 0 124 (fun q hq e _ => (by decide : ∀ q ∈ imA, q.1 = 98 → q.2.1 = 0 ∧ q.2.2 = 124) q hq e) (by decide) hw (by omega) (by decide) (by decide) (by omega) (by decide)
  have b : IM (si (si m 98 (1020 + mi m 86 20).toNat what) 99 (1020 + mi m 86 20).toNat v) := a.cell 0 99999 (fun q hq e _ => (by decide : ∀ q ∈ imA, q.1 = 99 → q.2.1 = 0 ∧ q.2.2 = 99999) q hq e) (by decide) hv (by omega) (by decide) (by decide) (by omega) (by decide)
  exact b.read (by omega) _
theorem layM_ps {m : AM} {a o : Int} {out : List (Nat × Int)} (h : PS m a o out) {what v : Int} (hw : 0 ≤ what ∧ what ≤ 124) (hv : 0 ≤ v ∧ v ≤ 99999) (hl : out.length ≤ 1000) : PS (layM m what v) a o (out ++ [(opM what, v)]) := by
  obtain ⟨h1, h2, h3, h4, h5⟩ := h
  have n : ∀ k, k ≠ 20 → mi (layM m what v) 86 k = mi m 86 k := fun k hk => (mi_si_ne _ _ (by omega)).trans ((mi_si_ne _ _ (by omega)).trans (mi_si_ne _ _ (by omega)))
  refine ⟨(n 17 (by decide)).trans h1, (n 18 (by decide)).trans h2, (n 19 (by decide)).trans h3, ?_, fun i hi => ?_⟩
  · unfold layM
    rw [mi_si_same _ _ _ (by omega) (by omega), h4, List.length_append]
    show ((out.length : Nat) : Int) + 1 = ((out.length + 1 : Nat) : Int)
    omega
  · rw [List.length_append] at hi
    have hi2 : i < out.length + 1 := hi
    have e98 : mi (layM m what v) 98 ((1020 : Int) + i).toNat = if i = out.length then what else mi m 98 ((1020 : Int) + i).toNat := by
      unfold layM
      rw [mi_si_ne _ _ (by omega), mi_si_ne _ _ (by omega)]
      by_cases q : i = out.length
      · rw [if_pos q, h4, q, mi_si_same _ _ _ (by omega) (by omega)]
      · rw [if_neg q, mi_si_ne _ _ (by rw [h4]; omega)]
    have e99 : mi (layM m what v) 99 ((1020 : Int) + i).toNat = if i = out.length then v else mi m 99 ((1020 : Int) + i).toNat := by
      unfold layM
      rw [mi_si_ne _ _ (by omega)]
      by_cases q : i = out.length
      · rw [if_pos q, h4, q, mi_si_same _ _ _ (by omega) (by omega)]
      · rw [if_neg q, mi_si_ne _ _ (by rw [h4]; omega), mi_si_ne _ _ (by omega)]
    unfold cdX
    rw [e98, e99]
    by_cases q : i = out.length
    · rw [if_pos q, if_pos q, q]
      simp
    · rw [if_neg q, if_neg q]
      have h6 := h5 i (by omega)
      unfold cdX at h6
      rw [h6]
      have hlt : i < out.length := by omega
      simp [List.getD, List.getElem?_append_left hlt]
theorem layM_px {m : AM} {a len p : Int} (h : PX m a len p) (what v : Int) {a0 len0 : Int} (h1 : a0 ≤ a) (h2 : len + 1 ≤ len0 + (a - a0)) (h3 : mi m 86 20 ≤ 1000) : PX (layM m what v) a0 len0 p := by
  obtain ⟨e1, e2, e3, e4, e5, e6⟩ := h
  have n : ∀ k, k ≠ 20 → mi (layM m what v) 86 k = mi m 86 k := fun k hk => (mi_si_ne _ _ (by omega)).trans ((mi_si_ne _ _ (by omega)).trans (mi_si_ne _ _ (by omega)))
  have e : mi (layM m what v) 86 20 = mi m 86 20 + 1 := mi_si_same _ _ _ (by omega) (by omega)
  exact ⟨(n 18 (by decide)).trans e1, e2, by rw [n 17 (by decide)]; omega, by rw [n 17 (by decide), n 16 (by decide)]; omega, by rw [e]; omega, by rw [e, n 17 (by decide)]; omega⟩
theorem z_i2b_of {x : Int} (h : 0 ≤ x ∧ x ≤ 127) : z_i2b x = x := by
  have : ∀ k : Nat, k < 128 → z_i2b (k : Int) = k := by decide +kernel
  have g := this x.toNat (by omega)
  rw [show ((x.toNat : Nat) : Int) = x by omega] at g
  exact g

theorem ct_X12_look {G : QW} {m : AM} (hS : St m) (hI : IM m) (h0 : 0 ≤ mi m 86 17) (h1 : mi m 86 17 ≤ 1000) : qM G mX12_look 0 0 0 [vR 86] m (fun r m' => r = some (vI (chR m (mi m 86 17))) ∧ m' = m) := by
  refine qM.intro okX12_look (Nat.le_of_ble_eq_true rfl) ?_
  refine j_aload_n rfl rfl ?_
  refine j_getI rfl f_X12_210 rfl (hS.lt (by decide)) (hS.k (by decide) (by decide)) ?_
  have u1_1 := mi_rng m 86 17
  refine j_aload_n rfl rfl ?_
  refine j_getI rfl f_X12_207 rfl (hS.lt (by decide)) (hS.k (by decide) (by decide)) ?_
  have u5_1 := hI.s 86 16 (0) 160 (by decide)
  refine j_icmp_ge (tgt := 23) rfl (by decide) (by omega) (by omega) (by omega) (by omega) (fun hb8_1 => ?_) (fun hb8_1 => ?_)
  · skip
    refine j_iconst rfl ?_
    refine j_iret rfl rfl ?_ rfl (Nat.le_refl _)
    exact ⟨by unfold chR; first | (rw [if_pos (by omega)]; done) | (rw [if_neg (by omega)]; done), rfl⟩
  · skip
    refine j_aload_n rfl rfl ?_
    refine j_getR (q := 100) rfl f_X12_51 rfl (hS.lt (by decide)) (hS.k (by decide) (by decide)) (hS.r (by decide)) ?_
    refine j_aload_n rfl rfl ?_
    refine j_getI rfl f_X12_210 rfl (hS.lt (by decide)) (hS.k (by decide) (by decide)) ?_
    have u16_1 := mi_rng m 86 17
    refine j_bald (n := 160) rfl (hS.lt (by decide)) (hS.k (by decide) (by decide)) (hS.n (by decide) (by decide)) (by omega) (by omega) (by decide) ?_
    have u19_1 := hI.a 100 (-128) 127 (by decide) (mi m 86 17).toNat
    refine j_goto (tgt := 24) rfl (by decide) ?_
    refine j_iret rfl rfl ?_ rfl (Nat.le_refl _)
    exact ⟨by unfold chR; first | (rw [if_pos (by omega)]; done) | (rw [if_neg (by omega)]; done), rfl⟩

theorem chR_rng {m : AM} (hI : IM m) (x : Int) : -128 ≤ chR m x ∧ chR m x ≤ 127 := by
  have g := hI.a 100 (-128) 127 (by decide) x.toNat
  unfold chR
  split <;> omega

theorem ct_X12_wrong {G : QW} {m : AM} (hS : St m) (hI : IM m) : qM G mX12_wrong 0 0 0 [vR 86] m (fun r m' => r = none ∧ m' = (if mi m 86 18 ≥ 0 then m else si m 86 18 (mi m 86 17))) := by
  refine qM.intro okX12_wrong (Nat.le_of_ble_eq_true rfl) ?_
  refine j_aload_n rfl rfl ?_
  refine j_getI rfl f_X12_213 rfl (hS.lt (by decide)) (hS.k (by decide) (by decide)) ?_
  have u1_1 := mi_rng m 86 18
  refine j_if_ge (tgt := 15) rfl (by decide) (by omega) (by omega) (fun hb4_1 => ?_) (fun hb4_1 => ?_)
  · skip
    refine j_vret rfl rfl ?_ rfl (Nat.le_refl _)
    exact ⟨rfl, by first | (rw [if_pos (by omega)]; done) | (rw [if_neg (by omega)]; done)⟩
  · skip
    refine j_aload_n rfl rfl ?_
    refine j_aload_n rfl rfl ?_
    refine j_getI rfl f_X12_210 rfl (hS.lt (by decide)) (hS.k (by decide) (by decide)) ?_
    have u9_1 := mi_rng m 86 17
    refine j_putI rfl f_X12_213 rfl (hS.lt (by decide)) (hS.k (by decide) (by decide)) ?_
    refine j_vret rfl rfl ?_ rfl (Nat.le_refl _)
    exact ⟨rfl, by first | (rw [if_pos (by omega)]; done) | (rw [if_neg (by omega)]; done)⟩

theorem ct_X12_lay {G : QW} {m : AM} {what v : Int} (hS : St m) (hw : 0 ≤ what ∧ what ≤ 127) (h0 : 0 ≤ mi m 86 20) (h1 : mi m 86 20 ≤ 169) : qM G mX12_lay 0 0 0 [vR 86, vI what, vI v] m (fun r m' => r = none ∧ m' = layM m what v) := by
  refine qM.intro okX12_lay (Nat.le_of_ble_eq_true rfl) ?_
  refine j_aload_n rfl rfl ?_
  refine j_getR (q := 98) rfl f_X12_44 rfl (hS.lt (by decide)) (hS.k (by decide) (by decide)) (hS.r (by decide)) ?_
  refine j_sipush rfl (by decide) ?_
  refine j_aload_n rfl rfl ?_
  refine j_getI rfl f_X12_216 rfl (hS.lt (by decide)) (hS.k (by decide) (by decide)) ?_
  have u8_1 := mi_rng m 86 20
  refine j_iadd rfl ?_
  refine j_iload_n rfl rfl ?_
  refine j_i2b rfl ?_
  have z13_1 := z_i2b_rng what
  refine j_bast (n := 1190) rfl (hS.lt (by decide)) (hS.k (by decide) (by decide)) (hS.n (by decide) (by decide)) (by omega) (by omega) (by first | decide | omega) ?_
  refine j_aload_n rfl rfl ?_
  refine j_getR (q := 99) rfl f_X12_48 rfl (hS.lt (by decide)) (hS.k (by decide) (by decide)) (hS.r (by decide)) ?_
  refine j_sipush rfl (by decide) ?_
  refine j_aload_n rfl rfl ?_
  refine j_getI rfl f_X12_216 rfl (hS.lt (by decide)) (hS.k (by decide) (by decide)) ?_
  rw [show mi (si m 98 (1020 + (mi m 86 20)).toNat (z_i2b (z_i2b what))) 86 20 = mi m 86 20 from by simp [mi_si, mi_fil, mi_cpr, mi_sl, mi_sr]]
  have u23_1 := mi_rng m 86 20
  refine j_iadd rfl ?_
  refine j_iload_n rfl rfl ?_
  refine j_iast (n := 1190) rfl (hS.lt (by decide)) (hS.k (by decide) (by decide)) (hS.n (by decide) (by decide)) (by omega) (by omega) (by first | decide | omega) ?_
  refine j_aload_n rfl rfl ?_
  refine j_dup rfl (Nat.ne_of_beq_eq_false rfl) ?_
  refine j_getI rfl f_X12_216 rfl (hS.lt (by decide)) (hS.k (by decide) (by decide)) ?_
  rw [show mi (si (si m 98 (1020 + (mi m 86 20)).toNat (z_i2b (z_i2b what))) 99 (1020 + (mi m 86 20)).toNat v) 86 20 = mi m 86 20 from by simp [mi_si, mi_fil, mi_cpr, mi_sl, mi_sr]]
  have u31_1 := mi_rng m 86 20
  refine j_iconst rfl ?_
  refine j_iadd rfl ?_
  refine j_putI rfl f_X12_216 rfl (hS.lt (by decide)) (hS.k (by decide) (by decide)) ?_
  refine j_vret rfl rfl ?_ rfl (Nat.le_refl _)
  refine ⟨rfl, ?_⟩
  unfold layM
  rw [z_i2b_of hw, z_i2b_of hw]


/-- a part's number, whatever lay on the pile before: the fault and the number -/
def eV (code : Int → Nat × Int) (rd : Nat → Int → Int × Int) (c : Nat) (k : Int) : Int × Int := ((sEV code rd c k 0 (fun _ => 0)).1, (sEV code rd c k 0 (fun _ => 0)).2 0)
theorem sUp_eq {f g : Nat → Int} {n v : Int} {j : Nat} (h : j ≠ n.toNat → f j = g j) : sUp f n v j = sUp g n v j := by
  unfold sUp
  by_cases e : j = n.toNat
  · rw [if_pos e, if_pos e]
  · rw [if_neg e, if_neg e]
    exact h e
theorem sEV_pile {code : Int → Nat × Int} {rd : Nat → Int → Int × Int} : ∀ (c : Nat) (k n : Int) (f g : Nat → Int), sWF code c k n → (∀ j : Nat, (j : Int) < n → f j = g j) → (sEV code rd c k n f).1 = (sEV code rd c k n g).1 ∧ ((sEV code rd c k n f).1 = 0 → (sEV code rd c k n f).2 0 = (sEV code rd c k n g).2 0) := by
  intro c
  induction c with
  | zero =>
    intro k n f g hw h
    have hn : n = 1 := hw
    exact ⟨rfl, fun _ => h 0 (by omega)⟩
  | succ c ih =>
    intro k n f g hw h
    simp only [sWF] at hw
    obtain ⟨hn, hW⟩ := hw
    simp only [sEV]
    rcases hW with ⟨hw, -, -, -, -, hw2⟩ | ⟨hw, hn1, hw2⟩ | ⟨hw, hw3, hn2, hw2⟩
    · simp only [if_pos hw]
      by_cases hr : (rd (code k).1 (code k).2).1 ≠ 0
      · simp only [if_pos hr]
        exact ⟨trivial, fun q => absurd q hr⟩
      · simp only [if_neg hr]
        exact ih (k + 1) (n + 1) _ _ hw2 (fun j hj => sUp_eq (fun e => h j (by omega)))
    · have n6 : ¬ (code k).1 < 6 := by omega
      simp only [if_neg n6, if_pos hw]
      rw [h (n - 1).toNat (by omega)]
      exact ih (k + 1) n _ _ hw2 (fun j hj => sUp_eq (fun e => h j (by omega)))
    · have n6 : ¬ (code k).1 < 6 := by omega
      have n7 : ¬ (code k).1 = 6 := by omega
      simp only [if_neg n6, if_neg n7]
      rw [h (n - 1).toNat (by omega), h (n - 2).toNat (by omega)]
      by_cases hr : (sJN (code k).1 (g (n - 2).toNat) (g (n - 1).toNat)).1 ≠ 0
      · simp only [if_pos hr]
        exact ⟨trivial, fun q => absurd q hr⟩
      · simp only [if_neg hr]
        exact ih (k + 1) (n - 1) _ _ hw2 (fun j hj => sUp_eq (fun e => h j (by omega)))
theorem sJN_r {w : Nat} {x y : Int} : 0 ≤ (sJN w x y).1 ∧ (sJN w x y).1 ≤ 4 := by
  unfold sJN
  dsimp only
  repeat' split
  all_goals (dsimp only; repeat' split)
  all_goals omega
theorem sEV_r {code : Int → Nat × Int} {rd : Nat → Int → Int × Int} (hr : ∀ w v, 0 ≤ (rd w v).1 ∧ (rd w v).1 ≤ 4) : ∀ (c : Nat) (k n : Int) (f : Nat → Int), 0 ≤ (sEV code rd c k n f).1 ∧ (sEV code rd c k n f).1 ≤ 4 := by
  intro c
  induction c with
  | zero => intro k n f; exact ⟨Int.le_refl _, show (0 : Int) ≤ 4 by decide⟩
  | succ c ih =>
    intro k n f
    simp only [sEV]
    split
    · split
      · exact hr _ _
      · exact ih _ _ _
    · split
      · exact ih _ _ _
      · split
        · exact sJN_r
        · exact ih _ _ _
theorem rdM_r (m : AM) (b : Int) (w : Nat) (v : Int) : 0 ≤ (rdM m b w v).1 ∧ (rdM m b w v).1 ≤ 4 := by
  unfold rdM inM
  repeat' split
  all_goals (dsimp only; omega)
/-- what a part of a program gives at the reference -/
def eM (m : AM) (b fr to : Int) : Int × Int := eV (cdX m) (rdM m b) (to - fr).toNat ((170 * b) + fr)
theorem eM_r (m : AM) (b fr to : Int) : 0 ≤ (eM m b fr to).1 ∧ (eM m b fr to).1 ≤ 4 := sEV_r (rdM_r m b) _ _ _ _
theorem SameP.eM {m M : AM} (h : SameP m M) (b fr to : Int) : eM M b fr to = eM m b fr to := by
  obtain ⟨L, rfl⟩ := h.ex
  rfl
theorem SameP.si {m M : AM} (h : SameP m M) (o k : Nat) (v : Int) : SameP (si m o k v) (si M o k v) := by
  obtain ⟨L, rfl⟩ := h.ex
  exact ⟨rfl, rfl, h.2.2⟩
theorem SameP.mi {m M : AM} (h : SameP m M) (o k : Nat) : mi M o k = mi m o k := by
  obtain ⟨L, rfl⟩ := h.ex
  rfl
/-- a run of a part: its fault; and the number, first on the pile -/
theorem ct_X12_workedE {G : QW} {m : AM} (hRF : RF m) {b fr to : Int} (hb0 : 0 ≤ b) (hb5 : b ≤ 5) (hf0 : 0 ≤ fr) (hft : fr ≤ to) (ht0 : 0 ≤ to) (ht1 : to ≤ 160) (hwf : sWF (cdX m) (to - fr).toNat ((170 * b) + fr) 0) : qM G mX12_worked 1 0 0 [vR 86, vI b, vI fr, vI to] m (fun r m' => SameP m m' ∧ r = some (vI (eM m b fr to).1) ∧ ((eM m b fr to).1 = 0 → ml m' 115 0 = (eM m b fr to).2 ∧ -1000000000 ≤ (eM m b fr to).2 ∧ (eM m b fr to).2 ≤ 1000000000)) := by
  refine (ct_X12_worked hRF hb0 hb5 hf0 hft ht0 ht1 hwf).mono ?_
  rintro r m' ⟨h1, h2, h3⟩
  obtain ⟨p1, p2⟩ := sEV_pile (rd := rdM m b) (to - fr).toNat ((170 * b) + fr) 0 (ml m 115) (fun _ => 0) hwf (fun j hj => by exfalso; omega)
  refine ⟨h1, ?_, fun hz => ?_⟩
  · exact h2.trans (congrArg (fun z => some (vI z)) p1)
  · have hz' : (sEV (cdX m) (rdM m b) (to - fr).toNat ((170 * b) + fr) 0 (ml m 115)).1 = 0 := p1.trans hz
    have h4 := h3 hz'
    rw [p2 hz'] at h4
    exact h4

set_option maxRecDepth 20000 in
set_option maxHeartbeats 4000000 in
theorem lp_X12_kill_11 {G : QW} {R : Room} {F : QFin} {cc cs : Nat} {m : AM} (hS : St m) {b y : Int} (hb0 : 0 ≤ b) (hb5 : b ≤ 5) (hexit : qJ G mX12_kill R F 40 [(0, vR 86), (1, vI b), (2, vI y)] [] (fil (fil m 107 (4 * b) (4 * b + 4) 0) 108 (4 * b) (4 * b + 4) y) cc cs) : ∀ (fuel : Nat) (p : Int), 4 * b ≤ p → p ≤ 4 * b + 4 → 4 * b + 4 - p < fuel → qJ G mX12_kill R F 11 [(0, vR 86), (1, vI b), (2, vI y), (3, vI p)] [] (fil (fil m 107 (4 * b) p 0) 108 (4 * b) p y) cc cs := by
  intro fuel
  induction fuel with
  | zero => intro p h1 h2 h3; omega
  | succ fuel ih =>
    intro p hv1 hv2 hv3
    refine j_iload_n rfl rfl ?_
    refine j_iconst rfl ?_
    refine j_iload_n rfl rfl ?_
    refine j_imul rfl ?_
    refine j_iconst rfl ?_
    refine j_iadd rfl ?_
    refine j_icmp_ge (tgt := 40) rfl (by decide) (by omega) (by omega) (by omega) (by omega) (fun hb17_1 => ?_) (fun hb17_1 => ?_)
    · skip
      have he : p = 4 * b + 4 := by omega
      rw [he]
      refine j_loc (ls' := [(0, vR 86), (1, vI b), (2, vI y)]) rfl ?_
      exact hexit
    · skip
      refine j_aload_n rfl rfl ?_
      refine j_getR (q := 107) rfl f_X12_72 rfl (hS.lt (by decide)) (hS.k (by decide) (by decide)) (hS.r (by decide)) ?_
      refine j_iload_n rfl rfl ?_
      refine j_iconst rfl ?_
      refine j_iast (n := 24) rfl (hS.lt (by decide)) (hS.k (by decide) (by decide)) (hS.n (by decide) (by decide)) (by omega) (by omega) (by first | decide | omega) ?_
      refine j_aload_n rfl rfl ?_
      refine j_getR (q := 108) rfl f_X12_75 rfl (hS.lt (by decide)) (hS.k (by decide) (by decide)) (hS.r (by decide)) ?_
      refine j_iload_n rfl rfl ?_
      refine j_iload_n rfl rfl ?_
      refine j_iast (n := 24) rfl (hS.lt (by decide)) (hS.k (by decide) (by decide)) (hS.n (by decide) (by decide)) (by omega) (by omega) (by first | decide | omega) ?_
      refine j_iinc rfl rfl (by decide) ?_
      refine j_goto (tgt := 11) rfl (by decide) ?_
      refine j_loc (ls' := [(0, vR 86), (1, vI b), (2, vI y), (3, vI (p + 1))]) rfl ?_
      rw [si_fil (by decide), fil_si (by omega) (by omega) rfl, fil_si (by omega) (by omega) rfl]
      exact ih (p + 1) (by omega) (by omega) (by omega)

def FX12_kill (m : AM) (b : Int) (y : Int) : AM :=
  (fil (fil (si m 111 b.toNat 1) 107 (4 * b) (4 * b + 4) 0) 108 (4 * b) (4 * b + 4) y)
set_option maxRecDepth 20000 in
set_option maxHeartbeats 4000000 in
theorem ct_X12_kill {G : QW} {m : AM} (hS : St m) (hI : IM m) {b : Int} {y : Int} (hb1 : -2147483648 ≤ b) (hb2 : b < 2147483648) (hy1 : -2147483648 ≤ y) (hy2 : y < 2147483648) (hb0 : 0 ≤ b) (hb5 : b ≤ 5) : qM G mX12_kill 0 0 0 [vR 86, vI b, vI y] m (fun r m' => r = none ∧ m' = FX12_kill m b y) := by
  refine qM.intro okX12_kill (Nat.le_of_ble_eq_true rfl) ?_
  refine j_aload_n rfl rfl ?_
  refine j_getR (q := 111) rfl f_X12_84 rfl (hS.lt (by decide)) (hS.k (by decide) (by decide)) (hS.r (by decide)) ?_
  refine j_iload_n rfl rfl ?_
  refine j_iconst rfl ?_
  refine j_zast (n := 6) rfl (hS.lt (by decide)) (hS.k (by decide) (by decide)) (hS.n (by decide) (by decide)) (by omega) (by omega) (by first | decide | omega) (by omega) ?_
  refine j_iconst rfl ?_
  refine j_iload_n rfl rfl ?_
  refine j_imul rfl ?_
  refine j_istore_n rfl (by decide) ?_
  refine j_loc (ls' := [(0, vR 86), (1, vI b), (2, vI y), (3, vI (4 * b))]) rfl ?_
  refine qJ_mem (m' := (fil (fil (si m 111 b.toNat 1) 107 (4 * b) (4 * b) 0) 108 (4 * b) (4 * b) y)) (by simp only [fil_0 _ _ _ (Int.le_refl _)]) ?_
  refine lp_X12_kill_11 (m := (si m 111 b.toNat 1)) hS hb0 hb5 ?_ 1000 (4 * b) (by omega) (by omega) (by omega)
  refine j_vret rfl rfl ?_ rfl (Nat.le_refl _)
  unfold FX12_kill
  exact ⟨rfl, rfl⟩

def FX12_mostOf (m : AM) (b : Int) : Int :=
  (z_ishl 1 (b - 1)) - 1
set_option maxRecDepth 20000 in
set_option maxHeartbeats 4000000 in
theorem ct_X12_mostOf {G : QW} {m : AM} {b : Int} (hb1 : -2147483648 ≤ b) (hb2 : b < 2147483648) : qM G mX12_mostOf 0 0 0 [vI b] m (fun r m' => r = some (vI (FX12_mostOf m b)) ∧ m' = m) := by
  refine qM.intro okX12_mostOf (Nat.le_of_ble_eq_true rfl) ?_
  refine j_iconst rfl ?_
  refine j_iload_n rfl rfl ?_
  refine j_iconst rfl ?_
  refine j_isub rfl ?_
  refine j_ishl rfl ?_
  have z4_1 := z_ishl_rng 1 (b - 1)
  refine j_iconst rfl ?_
  refine j_isub rfl ?_
  refine j_iret rfl rfl ?_ rfl (Nat.le_refl _)
  unfold FX12_mostOf
  exact ⟨rfl, rfl⟩


/-! the class's shelves -/
def flL (m : AM) (o : Nat) (a e v : Int) : AM := (m.1, fun (p j : Nat) => if p = o ∧ a ≤ (j : Int) ∧ (j : Int) < e then v else m.2.1 p j, m.2.2)
theorem flL_0 (m : AM) (o : Nat) {a e : Int} (v : Int) (h : e ≤ a) : flL m o a e v = m := by
  have e1 : (fun (p j : Nat) => if p = o ∧ a ≤ (j : Int) ∧ (j : Int) < e then v else m.2.1 p j) = m.2.1 := by
    funext p j
    exact if_neg (fun q => by omega)
  show (m.1, _, m.2.2) = m
  rw [e1]
theorem flL_sl {m : AM} {o j : Nat} {a e v : Int} (h0 : 0 ≤ a) (h : a ≤ e) (hj : j = e.toNat) : sl (flL m o a e v) o j v = flL m o a (e + 1) v := by
  subst hj
  have e1 : u2 (fun (p j : Nat) => if p = o ∧ a ≤ (j : Int) ∧ (j : Int) < e then v else m.2.1 p j) o e.toNat v = (fun (p j : Nat) => if p = o ∧ a ≤ (j : Int) ∧ (j : Int) < e + 1 then v else m.2.1 p j) := by
    funext p j
    show (if p = o ∧ j = e.toNat then v else if p = o ∧ a ≤ (j : Int) ∧ (j : Int) < e then v else m.2.1 p j) = if p = o ∧ a ≤ (j : Int) ∧ (j : Int) < e + 1 then v else m.2.1 p j
    by_cases hp : p = o
    · by_cases hj : j = e.toNat
      · rw [if_pos ⟨hp, hj⟩, if_pos ⟨hp, by omega, by omega⟩]
      · rw [if_neg (fun q => hj q.2)]
        by_cases h3 : a ≤ (j : Int) ∧ (j : Int) < e
        · rw [if_pos ⟨hp, h3⟩, if_pos ⟨hp, by omega, by omega⟩]
        · rw [if_neg (fun q => h3 q.2), if_neg (fun q => h3 ⟨q.2.1, by omega⟩)]
    · rw [if_neg (fun q => hp q.1), if_neg (fun q => hp q.1), if_neg (fun q => hp q.1)]
  show (m.1, u2 (fun (p j : Nat) => if p = o ∧ a ≤ (j : Int) ∧ (j : Int) < e then v else m.2.1 p j) o e.toNat v, m.2.2) = _
  rw [e1]
  rfl
theorem ml_flL (m : AM) (o : Nat) (a e v : Int) (p j : Nat) : ml (flL m o a e v) p j = if p = o ∧ a ≤ (j : Int) ∧ (j : Int) < e then (zl v).toInt else ml m p j := by
  show (zl (if p = o ∧ a ≤ (j : Int) ∧ (j : Int) < e then v else m.2.1 p j)).toInt = _
  by_cases h : p = o ∧ a ≤ (j : Int) ∧ (j : Int) < e
  · rw [if_pos h, if_pos h]
  · rw [if_neg h, if_neg h]
    rfl
theorem mi_flL (m : AM) (o : Nat) (a e v : Int) : mi (flL m o a e v) = mi m := rfl

set_option maxRecDepth 20000 in
set_option maxHeartbeats 4000000 in
theorem lp_fillB {G : QW} {R : Room} {F : QFin} {cc cs : Nat} {m : AM} {o n : Nat} {v : Int} (ho : o < mz m) (hk : mk m o = 15) (hn : mn m o = n) (hb : n ≤ 1000) (hexit : qJ G mJ7_fill_031fb R F 20 [(0, vR o), (1, vI v), (3, vI (n : Int))] [] (fil m o 0 (n : Int) (z_i2b v)) cc cs) : ∀ (fuel : Nat) (i : Int), 0 ≤ i → i ≤ (n : Int) → (n : Int) - i < fuel → qJ G mJ7_fill_031fb R F 5 [(0, vR o), (1, vI v), (2, vI i), (3, vI (n : Int))] [] (fil m o 0 i (z_i2b v)) cc cs := by
  intro fuel
  induction fuel with
  | zero => intro i h1 h2 h3; omega
  | succ fuel ih =>
    intro i hv1 hv2 hv3
    refine j_iload_n rfl rfl ?_
    refine j_iload_n rfl rfl ?_
    refine j_icmp_ge (tgt := 20) rfl (by decide) (by omega) (by omega) (by omega) (by omega) (fun hb7_1 => ?_) (fun hb7_1 => ?_)
    · skip
      have he : i = (n : Int) := by omega
      rw [he]
      refine j_loc (ls' := [(0, vR o), (1, vI v), (3, vI (n : Int))]) rfl ?_
      exact hexit
    · skip
      refine j_aload_n rfl rfl ?_
      refine j_iload_n rfl rfl ?_
      refine j_iload_n rfl rfl ?_
      refine j_bast (n := n) rfl ho hk hn (by omega) (by omega) (by first | decide | omega) ?_
      refine j_iinc rfl rfl (by decide) ?_
      refine j_goto (tgt := 5) rfl (by decide) ?_
      refine j_loc (ls' := [(0, vR o), (1, vI v), (2, vI (i + 1)), (3, vI (n : Int))]) rfl ?_
      rw [fil_si (by decide) (by omega) rfl]
      exact ih (i + 1) (by omega) (by omega) (by omega)

set_option maxRecDepth 20000 in
set_option maxHeartbeats 4000000 in
theorem lp_fillL {G : QW} {R : Room} {F : QFin} {cc cs : Nat} {m : AM} {o n : Nat} {v : Int} (ho : o < mz m) (hk : mk m o = 14) (hn : mn m o = n) (hb : n ≤ 1000) (hexit : qJ G mJ7_fill_d0a16 R F 22 [(0, vR o), (1, vL v), (4, vI (n : Int))] [] (flL m o 0 (n : Int) v) cc cs) : ∀ (fuel : Nat) (i : Int), 0 ≤ i → i ≤ (n : Int) → (n : Int) - i < fuel → qJ G mJ7_fill_d0a16 R F 6 [(0, vR o), (1, vL v), (3, vI i), (4, vI (n : Int))] [] (flL m o 0 i v) cc cs := by
  intro fuel
  induction fuel with
  | zero => intro i h1 h2 h3; omega
  | succ fuel ih =>
    intro i hv1 hv2 hv3
    refine j_iload_n rfl rfl ?_
    refine j_iload rfl rfl ?_
    refine j_icmp_ge (tgt := 22) rfl (by decide) (by omega) (by omega) (by omega) (by omega) (fun hb9_1 => ?_) (fun hb9_1 => ?_)
    · skip
      have he : i = (n : Int) := by omega
      rw [he]
      refine j_loc (ls' := [(0, vR o), (1, vL v), (4, vI (n : Int))]) rfl ?_
      exact hexit
    · skip
      refine j_aload_n rfl rfl ?_
      refine j_iload_n rfl rfl ?_
      refine j_lload_n rfl rfl ?_
      refine j_last (n := n) rfl ho hk hn (by omega) (by omega) (by first | decide | omega) ?_
      refine j_iinc rfl rfl (by decide) ?_
      refine j_goto (tgt := 6) rfl (by decide) ?_
      refine j_loc (ls' := [(0, vR o), (1, vL v), (3, vI (i + 1)), (4, vI (n : Int))]) rfl ?_
      rw [flL_sl (by decide) (by omega) rfl]
      exact ih (i + 1) (by omega) (by omega) (by omega)

theorem ct_fillB {G : QW} {m : AM} {o n : Nat} {v : Int} (ho : o < mz m) (hk : mk m o = 15) (hn : mn m o = n) (hb : n ≤ 1000) : qM G mJ7_fill_031fb 0 0 0 [vR o, vI v] m (fun r m' => r = none ∧ m' = fil m o 0 (n : Int) (z_i2b v)) := by
  refine qM.intro okJ7_fill_031fb (Nat.le_of_ble_eq_true rfl) ?_
  refine j_iconst rfl ?_
  refine j_istore_n rfl (by decide) ?_
  refine j_aload_n rfl rfl ?_
  refine j_alen rfl ho hk (by decide) hn ?_
  refine j_istore_n rfl (by decide) ?_
  refine j_loc (ls' := [(0, vR o), (1, vI v), (2, vI 0), (3, vI (n : Int))]) rfl ?_
  refine qJ_mem (m' := fil m o 0 0 (z_i2b v)) (fil_0 _ _ _ (Int.le_refl _)) ?_
  refine lp_fillB ho hk hn hb ?_ (n + 1) 0 (by omega) (by omega) (by omega)
  refine j_vret rfl rfl ?_ rfl (Nat.le_refl _)
  exact ⟨rfl, rfl⟩

theorem ct_fillL {G : QW} {m : AM} {o n : Nat} {v : Int} (ho : o < mz m) (hk : mk m o = 14) (hn : mn m o = n) (hb : n ≤ 1000) : qM G mJ7_fill_d0a16 0 0 0 [vR o, vL v] m (fun r m' => r = none ∧ m' = flL m o 0 (n : Int) v) := by
  refine qM.intro okJ7_fill_d0a16 (Nat.le_of_ble_eq_true rfl) ?_
  refine j_iconst rfl ?_
  refine j_istore_n rfl (by decide) ?_
  refine j_aload_n rfl rfl ?_
  refine j_alen rfl ho hk (by decide) hn ?_
  refine j_istore rfl (by decide) ?_
  refine j_loc (ls' := [(0, vR o), (1, vL v), (3, vI 0), (4, vI (n : Int))]) rfl ?_
  refine qJ_mem (m' := flL m o 0 0 v) (flL_0 _ _ _ (Int.le_refl _)) ?_
  refine lp_fillL ho hk hn hb ?_ (n + 1) 0 (by omega) (by omega) (by omega)
  refine j_vret rfl rfl ?_ rfl (Nat.le_refl _)
  exact ⟨rfl, rfl⟩

def FX7_holdRow (m : AM) (o : Nat) (sort : Int) (n : Int) : AM :=
  (fil (flL (si (si (si m o 2 (-1)) o 3 sort) o 4 n) (o + 1) 0 (60 : Nat) 0) (o + 2) 0 (60 : Nat) (z_i2b 0))
set_option maxRecDepth 20000 in
set_option maxHeartbeats 4000000 in
theorem ct_X7_holdRow {G : QW} {m : AM} {o : Nat} {sort : Int} {n : Int} (hsort1 : -2147483648 ≤ sort) (hsort2 : sort < 2147483648) (hn1 : -2147483648 ≤ n) (hn2 : n < 2147483648) (hO : ObA m o 7 fsShelf) : qM G mX7_holdRow 1 0 0 [vR o, vI sort, vI n] m (fun r m' => r = none ∧ m' = FX7_holdRow m o sort n) := by
  refine qM.intro okX7_holdRow (Nat.le_of_ble_eq_true rfl) ?_
  refine j_aload_n rfl rfl ?_
  refine j_iconst rfl ?_
  refine j_putI rfl f_X7_19 rfl hO.1 hO.2.1 ?_
  refine j_aload_n rfl rfl ?_
  refine j_iload_n rfl rfl ?_
  refine j_putI rfl f_X7_23 rfl hO.1 hO.2.1 ?_
  refine j_aload_n rfl rfl ?_
  refine j_iload_n rfl rfl ?_
  refine j_putI rfl f_X7_26 rfl hO.1 hO.2.1 ?_
  refine j_aload_n rfl rfl ?_
  refine j_getR (q := (o + 1)) rfl f_X7_9 rfl hO.1 hO.2.1 (hO.q 0 1 14 60 (by decide)).1 ?_
  refine j_lconst (v := 0) rfl (by decide) ?_
  refine j_callS (As := [_, _]) rfl okJ7_fill_d0a16 c_X7_29 (ct_fillL (n := 60) (hO.q 0 1 14 60 (by decide)).2.1 (hO.q 0 1 14 60 (by decide)).2.2.1 (hO.q 0 1 14 60 (by decide)).2.2.2 (by decide)) rfl rfl (Nat.le_of_ble_eq_true rfl) (by decide) (by decide) ?_
  rintro vq mq ⟨e1, e2⟩
  rw [e1, e2]
  clear e1 e2
  simp only [Option.toList_some, Option.toList_none, List.cons_append, List.nil_append]
  refine j_aload_n rfl rfl ?_
  refine j_getR (q := (o + 2)) rfl f_X7_15 rfl hO.1 hO.2.1 (hO.q 1 2 15 60 (by decide)).1 ?_
  refine j_iconst rfl ?_
  refine j_callS (As := [_, _]) rfl okJ7_fill_031fb c_X7_35 (ct_fillB (n := 60) (hO.q 1 2 15 60 (by decide)).2.1 (hO.q 1 2 15 60 (by decide)).2.2.1 (hO.q 1 2 15 60 (by decide)).2.2.2 (by decide)) rfl rfl (Nat.le_of_ble_eq_true rfl) (by decide) (by decide) ?_
  rintro vq mq ⟨e1, e2⟩
  rw [e1, e2]
  clear e1 e2
  simp only [Option.toList_some, Option.toList_none, List.cons_append, List.nil_append]
  refine j_vret rfl rfl ?_ rfl (Nat.le_refl _)
  unfold FX7_holdRow
  exact ⟨rfl, rfl⟩

def FX11_row (m : AM) (sh : Int) (sort : Int) (n : Int) : Int × AM :=
  if 0 ≤ sh ∧ sh ≤ 5 then
    if sort < 0 then
      ((-1), m)
    else
      if sort > 4 then
        ((-1), m)
      else
        if n ≤ 60 then
          if n ≥ 0 then
            (1, (FX7_holdRow m (68 + 3 * sh.toNat) sort n))
          else
            ((-14), m)
        else
          ((-1), m)
  else
    ((-1), m)
set_option maxRecDepth 20000 in
set_option maxHeartbeats 4000000 in
theorem ct_X11_row {G : QW} {m : AM} (hS : St m) (hI : IM m) {sh : Int} {sort : Int} {n : Int} (hsh1 : -2147483648 ≤ sh) (hsh2 : sh < 2147483648) (hsort1 : -2147483648 ≤ sort) (hsort2 : sort < 2147483648) (hn1 : -2147483648 ≤ n) (hn2 : n < 2147483648) : qM G mX11_row 2 0 0 [vR 0, vI sh, vI sort, vI n] m (fun r m' => r = some (vI (FX11_row m sh sort n).1) ∧ m' = (FX11_row m sh sort n).2) := by
  refine qM.intro okX11_row (Nat.le_of_ble_eq_true rfl) ?_
  refine j_iload_n rfl rfl ?_
  refine j_callS (As := [_]) rfl okX11_isShelf c_X11_369 (ct_X11_isShelf (by omega) (by omega)) rfl rfl (Nat.le_of_ble_eq_true rfl) (by decide) (by decide) ?_
  rintro vq mq ⟨e1, e2⟩
  rw [e1, e2]
  clear e1 e2
  simp only [Option.toList_some, Option.toList_none, List.cons_append, List.nil_append]
  refine j_bif_eq (tgt := 22) rfl (by decide) (fun hb4_1 => ?_) (fun hb4_1 => ?_)
  · skip
    refine j_iconst rfl ?_
    refine j_iret rfl rfl ?_ rfl (Nat.le_refl _)
    unfold FX11_row
    rw [if_neg hb4_1]
    exact ⟨rfl, rfl⟩
  · skip
    refine j_iload_n rfl rfl ?_
    refine j_if_lt (tgt := 22) rfl (by decide) (by omega) (by omega) (fun hb8_1 => ?_) (fun hb8_1 => ?_)
    · skip
      refine j_iconst rfl ?_
      refine j_iret rfl rfl ?_ rfl (Nat.le_refl _)
      unfold FX11_row
      rw [if_pos hb4_1, if_pos hb8_1]
      exact ⟨rfl, rfl⟩
    · skip
      refine j_iload_n rfl rfl ?_
      refine j_iconst rfl ?_
      refine j_icmp_gt (tgt := 22) rfl (by decide) (by omega) (by omega) (by omega) (by omega) (fun hb13_1 => ?_) (fun hb13_1 => ?_)
      · skip
        refine j_iconst rfl ?_
        refine j_iret rfl rfl ?_ rfl (Nat.le_refl _)
        unfold FX11_row
        rw [if_pos hb4_1, if_neg hb8_1, if_pos hb13_1]
        exact ⟨rfl, rfl⟩
      · skip
        refine j_iload_n rfl rfl ?_
        refine j_bipush rfl (by decide) ?_
        refine j_icmp_le (tgt := 24) rfl (by decide) (by omega) (by omega) (by omega) (by omega) (fun hb19_1 => ?_) (fun hb19_1 => ?_)
        · skip
          refine j_iload_n rfl rfl ?_
          refine j_if_ge (tgt := 31) rfl (by decide) (by omega) (by omega) (fun hb25_1 => ?_) (fun hb25_1 => ?_)
          · skip
            refine j_aload_n rfl rfl ?_
            refine j_getR (q := 5) rfl f_X11_30 rfl (hS.lt (by decide)) (hS.k (by decide) (by decide)) (hS.r (by decide)) ?_
            refine j_iload_n rfl rfl ?_
            have hq1 := hS.sh sh (by omega) (by omega)
            refine j_aald (k := 19) (n := 6) (v := (68 + 3 * sh.toNat)) rfl (hS.lt (by decide)) (hS.k (by decide) (by decide)) el19 (hS.n (by decide) (by decide)) (by omega) (by omega) (by decide) hq1.1 ?_
            refine j_iload_n rfl rfl ?_
            refine j_iload_n rfl rfl ?_
            refine j_callV (ci := 7) rfl okX7_holdRow c_X11_375 (ct_X7_holdRow (by omega) (by omega) (by omega) (by omega) hq1.2) rfl rfl hq1.2.1 hq1.2.2.1 (by decide) rfl (Nat.le_of_ble_eq_true rfl) (by decide) (by decide) ?_
            rintro vq mq ⟨e1, e2⟩
            rw [e1, e2]
            clear e1 e2
            simp only [Option.toList_some, Option.toList_none, List.cons_append, List.nil_append]
            refine j_iconst rfl ?_
            refine j_iret rfl rfl ?_ rfl (Nat.le_refl _)
            unfold FX11_row
            rw [if_pos hb4_1, if_neg hb8_1, if_neg hb13_1, if_pos hb19_1, if_pos hb25_1]
            exact ⟨rfl, rfl⟩
          · skip
            refine j_bipush rfl (by decide) ?_
            refine j_iret rfl rfl ?_ rfl (Nat.le_refl _)
            unfold FX11_row
            rw [if_pos hb4_1, if_neg hb8_1, if_neg hb13_1, if_pos hb19_1, if_neg hb25_1]
            exact ⟨rfl, rfl⟩
        · skip
          refine j_iconst rfl ?_
          refine j_iret rfl rfl ?_ rfl (Nat.le_refl _)
          unfold FX11_row
          rw [if_pos hb4_1, if_neg hb8_1, if_neg hb13_1, if_neg hb19_1]
          exact ⟨rfl, rfl⟩

theorem refusal_sh {m : AM} {s i : Int} (h : FX11_refusalOf m s i ≠ -1) : 0 ≤ s ∧ s ≤ 5 := by
  unfold FX11_refusalOf at h
  (repeat' split at h) <;> omega

def FX11_noNumber (m : AM) (sh : Int) (i : Int) : Int × AM :=
  if (FX11_refusalOf m sh i) = (-1) then
    ((FX11_refusalOf m sh i), m)
  else
    if (FX11_refusalOf m sh i) ≠ (-11) then
      if mi m (68 + 3 * sh.toNat) 3 = 3 ∨ mi m (68 + 3 * sh.toNat) 3 = 4 then
        if (FX11_refusalOf m sh i) = 0 then
          (1, (FX7_setLacking m (68 + 3 * sh.toNat) i))
        else
          ((FX11_refusalOf m sh i), m)
      else
        ((-12), m)
    else
      ((FX11_refusalOf m sh i), m)
set_option maxRecDepth 20000 in
set_option maxHeartbeats 4000000 in
theorem ct_X11_noNumber {G : QW} {m : AM} (hS : St m) (hI : IM m) {sh : Int} {i : Int} (hsh1 : -2147483648 ≤ sh) (hsh2 : sh < 2147483648) (hi1 : -2147483648 ≤ i) (hi2 : i < 2147483648) (hlen : mi m (68 + 3 * sh.toNat) 4 ≤ 60) : qM G mX11_noNumber 2 0 0 [vR 0, vI sh, vI i] m (fun r m' => r = some (vI (FX11_noNumber m sh i).1) ∧ m' = (FX11_noNumber m sh i).2) := by
  refine qM.intro okX11_noNumber (Nat.le_of_ble_eq_true rfl) ?_
  refine j_aload_n rfl rfl ?_
  refine j_iload_n rfl rfl ?_
  refine j_iload_n rfl rfl ?_
  refine j_callV (ci := 11) rfl okX11_refusalOf c_X11_378 (ct_X11_refusalOf hS hI (by omega) (by omega) (by omega) (by omega)) rfl rfl (hS.lt (by decide)) (hS.k (by decide) (by decide)) (by decide) rfl (Nat.le_of_ble_eq_true rfl) (by decide) (by decide) ?_
  rintro vq mq ⟨e1, e2⟩
  rw [e1, e2]
  clear e1 e2
  simp only [Option.toList_some, Option.toList_none, List.cons_append, List.nil_append]
  have hrr := FX11_refusal_rng m sh i
  have hs0 : FX11_refusalOf m sh i ≠ -1 → 0 ≤ sh ∧ sh ≤ 5 := refusal_sh
  refine j_istore_n rfl (by decide) ?_
  refine j_iload_n rfl rfl ?_
  refine j_iconst rfl ?_
  refine j_icmp_eq (tgt := 18) rfl (by decide) (by omega) (by omega) (by omega) (by omega) (fun hb9_1 => ?_) (fun hb9_1 => ?_)
  · skip
    refine j_iload_n rfl rfl ?_
    refine j_iret rfl rfl ?_ rfl (Nat.le_refl _)
    unfold FX11_noNumber
    rw [if_pos hb9_1]
    exact ⟨rfl, rfl⟩
  · skip
    refine j_iload_n rfl rfl ?_
    refine j_bipush rfl (by decide) ?_
    refine j_icmp_ne (tgt := 20) rfl (by decide) (by omega) (by omega) (by omega) (by omega) (fun hb15_1 => ?_) (fun hb15_1 => ?_)
    · skip
      have hs5 := hs0 (by omega)
      refine j_aload_n rfl rfl ?_
      refine j_getR (q := 5) rfl f_X11_30 rfl (hS.lt (by decide)) (hS.k (by decide) (by decide)) (hS.r (by decide)) ?_
      refine j_iload_n rfl rfl ?_
      have hq1 := hS.sh sh (by omega) (by omega)
      refine j_aald (k := 19) (n := 6) (v := (68 + 3 * sh.toNat)) rfl (hS.lt (by decide)) (hS.k (by decide) (by decide)) el19 (hS.n (by decide) (by decide)) (by omega) (by omega) (by decide) hq1.1 ?_
      refine j_callV (ci := 7) rfl okX7_holdsReals c_X11_177 (ct_X7_holdsReals hq1.2) rfl rfl hq1.2.1 hq1.2.2.1 (by decide) rfl (Nat.le_of_ble_eq_true rfl) (by decide) (by decide) ?_
      rintro vq mq ⟨e1, e2⟩
      rw [e1, e2]
      clear e1 e2
      simp only [Option.toList_some, Option.toList_none, List.cons_append, List.nil_append]
      refine j_bif_ne (tgt := 35) rfl (by decide) (fun hb29_1 => ?_) (fun hb29_1 => ?_)
      · skip
        refine j_iload_n rfl rfl ?_
        refine j_if_eq (tgt := 41) rfl (by decide) (by omega) (by omega) (fun hb36_1 => ?_) (fun hb36_1 => ?_)
        · skip
          have hok := refusal_ok (m := m) (s := sh) (i := i) hlen (by omega)
          obtain ⟨hok1, hok2⟩ := hok
          refine j_aload_n rfl rfl ?_
          refine j_getR (q := 5) rfl f_X11_30 rfl (hS.lt (by decide)) (hS.k (by decide) (by decide)) (hS.r (by decide)) ?_
          refine j_iload_n rfl rfl ?_
          have hq2 := hS.sh sh (by omega) (by omega)
          refine j_aald (k := 19) (n := 6) (v := (68 + 3 * sh.toNat)) rfl (hS.lt (by decide)) (hS.k (by decide) (by decide)) el19 (hS.n (by decide) (by decide)) (by omega) (by omega) (by decide) hq2.1 ?_
          refine j_iload_n rfl rfl ?_
          refine j_callV (ci := 7) rfl okX7_setLacking c_X11_385 (ct_X7_setLacking (by omega) (by omega) hq2.2 (by omega) (by omega)) rfl rfl hq2.2.1 hq2.2.2.1 (by decide) rfl (Nat.le_of_ble_eq_true rfl) (by decide) (by decide) ?_
          rintro vq mq ⟨e1, e2⟩
          rw [e1, e2]
          clear e1 e2
          simp only [Option.toList_some, Option.toList_none, List.cons_append, List.nil_append]
          refine j_iconst rfl ?_
          refine j_iret rfl rfl ?_ rfl (Nat.le_refl _)
          unfold FX11_noNumber
          rw [if_neg hb9_1, if_pos hb15_1, if_pos hb29_1, if_pos hb36_1]
          exact ⟨rfl, rfl⟩
        · skip
          refine j_iload_n rfl rfl ?_
          refine j_iret rfl rfl ?_ rfl (Nat.le_refl _)
          unfold FX11_noNumber
          rw [if_neg hb9_1, if_pos hb15_1, if_pos hb29_1, if_neg hb36_1]
          exact ⟨rfl, rfl⟩
      · skip
        refine j_bipush rfl (by decide) ?_
        refine j_iret rfl rfl ?_ rfl (Nat.le_refl _)
        unfold FX11_noNumber
        rw [if_neg hb9_1, if_pos hb15_1, if_neg hb29_1]
        exact ⟨rfl, rfl⟩
    · skip
      refine j_iload_n rfl rfl ?_
      refine j_iret rfl rfl ?_ rfl (Nat.le_refl _)
      unfold FX11_noNumber
      rw [if_neg hb9_1, if_neg (not_not_intro hb15_1)]
      exact ⟨rfl, rfl⟩


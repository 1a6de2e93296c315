/-- bytes of a number onto the tape, from the k-th on -/
def fdL (v : Int) : Nat → Int → AM → AM
  | 0, _, N => N
  | x + 1, k, N => fdL v x (k + 1) (si (si N 100 (mi N 86 16).toNat (z_i2b (z_i2b (z_ishr v (8 * k))))) 86 16 (mi N 86 16 + 1))
/-- feed() of the reference -/
def feeR (m : AM) (n v : Int) : Int × AM :=
  if 1 ≤ n ∧ n ≤ 4 then if mi m 86 16 + n > 160 then (-3, m) else (mi (fdL v n.toNat 0 m) 86 16, fdL v n.toNat 0 m) else (-1, m)
theorem fdL_t (v : Int) : ∀ (x : Nat) (k : Int) (N : AM), 0 ≤ mi N 86 16 → mi N 86 16 + x ≤ 160 → mi (fdL v x k N) 86 16 = mi N 86 16 + x := by
  intro x
  induction x with
  | zero => intro k N _ _; show mi N 86 16 = mi N 86 16 + ((0 : Nat) : Int); omega
  | succ x ih =>
    intro k N h h2
    have e : mi (si (si N 100 (mi N 86 16).toNat (z_i2b (z_i2b (z_ishr v (8 * k))))) 86 16 (mi N 86 16 + 1)) 86 16 = mi N 86 16 + 1 := mi_si_same _ _ _ (by omega) (by omega)
    show mi (fdL v x (k + 1) _) 86 16 = _
    rw [ih (k + 1) _ (by rw [e]; omega) (by rw [e]; omega), e]
    omega

set_option maxRecDepth 20000 in
theorem lp_feed_28 {G : QW} {E : AM} {n v : Int} {Rp : Option Vl → AM → Prop} (hn4 : n ≤ 4) (hexit : qJ G mX12_feed { frames := 1, cells := 0, slots := 0, locals := 60 * 1 } (qF G Rp 0 0) 65 [(0, vR 86), (1, vI n), (2, vI v)] [] E 0 0) : ∀ (x : Nat) (k : Int) (N : AM), St N → k + x = n → 0 ≤ k → 0 ≤ mi N 86 16 → mi N 86 16 + x ≤ 160 → fdL v x k N = E → qJ G mX12_feed { frames := 1, cells := 0, slots := 0, locals := 60 * 1 } (qF G Rp 0 0) 28 [(0, vR 86), (1, vI n), (2, vI v), (3, vI k)] [] N 0 0 := by
  intro x
  induction x with
  | zero =>
    intro k N hS hx hk0 ht0 ht hE
    refine j_iload_n rfl rfl ?_
    refine j_iload_n rfl rfl ?_
    refine j_icmp_ge (tgt := 65) rfl (by decide) (by omega) (by omega) (by omega) (by omega) (fun hb30_1 => ?_) (fun hb30_1 => ?_)
    · skip
      have hE : N = E := hE
      subst hE
      refine j_loc (ls' := [(0, vR 86), (1, vI n), (2, vI v)]) rfl ?_
      exact hexit
    · skip
      exfalso; omega
  | succ x ih =>
    intro k N hS hx hk0 ht0 ht hE
    have hE : fdL v x (k + 1) (si (si N 100 (mi N 86 16).toNat (z_i2b (z_i2b (z_ishr v (8 * k))))) 86 16 (mi N 86 16 + 1)) = E := hE
    refine j_iload_n rfl rfl ?_
    refine j_iload_n rfl rfl ?_
    refine j_icmp_ge (tgt := 65) rfl (by decide) (by omega) (by omega) (by omega) (by omega) (fun hb30_1 => ?_) (fun hb30_1 => ?_)
    · skip
      exfalso; omega
    · skip
      refine j_aload_n rfl rfl ?_
      refine j_getR (q := 100) rfl f_X12_51 rfl (hS.lt (by decide)) (hS.k (by decide) (by decide)) (hS.r (by decide)) ?_
      refine j_aload_n rfl rfl ?_
      refine j_getI rfl f_X12_207 rfl (hS.lt (by decide)) (hS.k (by decide) (by decide)) ?_
      have u38_1 := mi_rng N 86 16
      refine j_iload_n rfl rfl ?_
      refine j_bipush rfl (by decide) ?_
      refine j_iload_n rfl rfl ?_
      refine j_imul rfl ?_
      refine j_ishr rfl ?_
      have z46_1 := z_ishr_rng v (8 * k)
      refine j_i2b rfl ?_
      have z47_1 := z_i2b_rng (z_ishr v (8 * k))
      refine j_bast (n := 160) rfl (hS.lt (by decide)) (hS.k (by decide) (by decide)) (hS.n (by decide) (by decide)) (by omega) (by omega) (by first | decide | omega) ?_
      refine j_aload_n rfl rfl ?_
      refine j_dup rfl (Nat.ne_of_beq_eq_false rfl) ?_
      refine j_getI rfl f_X12_207 rfl (hS.lt (by decide)) (hS.k (by decide) (by decide)) ?_
      rw [show mi (si N 100 (mi N 86 16).toNat (z_i2b (z_i2b (z_ishr v (8 * k))))) 86 16 = mi N 86 16 from by simp [mi_si, mi_fil, mi_cpr, mi_sl, mi_sr]]
      have u51_1 := mi_rng N 86 16
      refine j_iconst rfl ?_
      refine j_iadd rfl ?_
      refine j_putI rfl f_X12_207 rfl (hS.lt (by decide)) (hS.k (by decide) (by decide)) ?_
      refine j_iinc rfl rfl (by decide) ?_
      refine j_goto (tgt := 28) rfl (by decide) ?_
      refine j_loc (ls' := [(0, vR 86), (1, vI n), (2, vI v), (3, vI (k + 1))]) rfl ?_
      have et : mi (si (si N 100 (mi N 86 16).toNat (z_i2b (z_i2b (z_ishr v (8 * k))))) 86 16 ((mi N 86 16) + 1)) 86 16 = mi N 86 16 + 1 := mi_si_same _ _ _ (by omega) (by omega)
      exact ih (k + 1) _ hS (by omega) (by omega) (by omega) (by omega) hE

theorem fdL_st (v : Int) : ∀ (x : Nat) (k : Int) (N : AM), St N → St (fdL v x k N) := by
  intro x
  induction x with
  | zero => intro k N h; exact h
  | succ x ih => intro k N h; exact ih _ _ h

set_option maxRecDepth 20000 in
theorem ct_X12_feed {G : QW} {m : AM} {n v : Int} (hS : St m) (hI : IM m) (hn1 : -2147483648 ≤ n) (hn2 : n < 2147483648) (hv1 : -2147483648 ≤ v) (hv2 : v < 2147483648) : qM G mX12_feed 1 0 0 [vR 86, vI n, vI v] m (fun r m' => r = some (vI (feeR m n v).1) ∧ m' = (feeR m n v).2) := by
  refine qM.intro okX12_feed (Nat.le_of_ble_eq_true rfl) ?_
  have htp := hI.s 86 16 0 160 (by decide)
  refine j_iload_n rfl rfl ?_
  refine j_iconst rfl ?_
  refine j_iconst rfl ?_
  refine j_callS (As := [_, _, _]) rfl okX12_in c_X12_194 (ct_X12_in (by omega) (by omega) (by omega) (by omega) (by omega) (by omega)) rfl rfl (Nat.le_of_ble_eq_true rfl) (by decide) (by decide) ?_
  rintro vq mq ⟨e1, e2⟩
  rw [e1, e2]
  clear e1 e2
  simp only [Option.toList_some, Option.toList_none, List.cons_append, List.nil_append]
  refine j_bif_ne (tgt := 11) rfl (by decide) (fun hb6_1 => ?_) (fun hb6_1 => ?_)
  · skip
    refine j_aload_n rfl rfl ?_
    refine j_getI rfl f_X12_207 rfl (hS.lt (by decide)) (hS.k (by decide) (by decide)) ?_
    have u12_1 := hI.s 86 16 (0) 160 (by decide)
    refine j_iload_n rfl rfl ?_
    refine j_iadd rfl ?_
    refine j_sipush rfl (by decide) ?_
    refine j_icmp_le (tgt := 26) rfl (by decide) (by omega) (by omega) (by omega) (by omega) (fun hb20_1 => ?_) (fun hb20_1 => ?_)
    · skip
      refine j_iconst rfl ?_
      refine j_istore_n rfl (by decide) ?_
      refine j_loc (ls' := [(0, vR 86), (1, vI n), (2, vI v), (3, vI 0)]) rfl ?_
      refine lp_feed_28 (E := fdL v n.toNat 0 m) (by omega) ?_ n.toNat 0 m hS (by omega) (by omega) (by omega) (by omega) rfl
      have hSE : St (fdL v n.toNat 0 m) := fdL_st v _ _ _ hS
      have et := fdL_t v n.toNat 0 m (by omega) (by omega)
      refine j_aload_n rfl rfl ?_
      refine j_getI rfl f_X12_207 rfl (hSE.lt (by decide)) (hSE.k (by decide) (by decide)) ?_
      have u66_1 := mi_rng (fdL v n.toNat 0 m) 86 16
      refine j_iret rfl rfl ?_ rfl (Nat.le_refl _)
      exact ⟨by unfold feeR; rw [if_pos (by omega), if_neg (by omega)], by unfold feeR; rw [if_pos (by omega), if_neg (by omega)]⟩
    · skip
      refine j_bipush rfl (by decide) ?_
      refine j_iret rfl rfl ?_ rfl (Nat.le_refl _)
      exact ⟨by unfold feeR; rw [if_pos (by omega), if_pos (by omega)], by unfold feeR; rw [if_pos (by omega), if_pos (by omega)]⟩
  · skip
    refine j_iconst rfl ?_
    refine j_iret rfl rfl ?_ rfl (Nat.le_refl _)
    exact ⟨by unfold feeR; rw [if_neg (by omega)], by unfold feeR; rw [if_neg (by omega)]⟩

/-- places of a shelf emptied, from k on -/
def rwL : Nat → Int → AM → AM
  | 0, _, N => N
  | x + 1, k, N => rwL x (k + 1) (si (sl N 141 k.toNat 0) 142 k.toNat 0)
def rowM (m : AM) (s sort n : Int) : AM := rwL 60 (60 * s) (si (si m 139 s.toNat (-2 - sort)) 140 s.toNat n)
/-- row() of the reference -/
def rowR (m : AM) (s sort n : Int) : Int × AM := if (0 ≤ s ∧ s ≤ 5) ∧ (0 ≤ sort ∧ sort ≤ 4) ∧ n ≤ 60 then if n < 0 then (-14, m) else (1, rowM m s sort n) else (-1, m)

set_option maxRecDepth 20000 in
theorem lp_row_54 {G : QW} {E : AM} {s sort n : Int} {Rp : Option Vl → AM → Prop} (hs0 : 0 ≤ s) (hs5 : s ≤ 5) (hfin : Rp (some (vI 1)) E) : ∀ (x : Nat) (k : Int) (N : AM), St N → k + x = 60 * s + 60 → 60 * s ≤ k → rwL x k N = E → qJ G mX12_row { frames := 2, cells := 0, slots := 0, locals := 60 * 2 } (qF G Rp 0 0) 54 [(0, vR 86), (1, vI s), (2, vI sort), (3, vI n), (4, vI k)] [] N 0 0 := by
  intro x
  induction x with
  | zero =>
    intro k N hS hx hk0 hE
    refine j_iload rfl rfl ?_
    refine j_bipush rfl (by decide) ?_
    refine j_iload_n rfl rfl ?_
    refine j_imul rfl ?_
    refine j_bipush rfl (by decide) ?_
    refine j_iadd rfl ?_
    refine j_icmp_ge (tgt := 88) rfl (by decide) (by omega) (by omega) (by omega) (by omega) (fun hb63_1 => ?_) (fun hb63_1 => ?_)
    · skip
      refine j_iconst rfl ?_
      refine j_iret rfl rfl ?_ rfl (Nat.le_refl _)
      have hE : N = E := hE
      subst hE
      exact hfin
    · skip
      exfalso; omega
  | succ x ih =>
    intro k N hS hx hk0 hE
    have hE : rwL x (k + 1) (si (sl N 141 k.toNat 0) 142 k.toNat 0) = E := hE
    refine j_iload rfl rfl ?_
    refine j_bipush rfl (by decide) ?_
    refine j_iload_n rfl rfl ?_
    refine j_imul rfl ?_
    refine j_bipush rfl (by decide) ?_
    refine j_iadd rfl ?_
    refine j_icmp_ge (tgt := 88) rfl (by decide) (by omega) (by omega) (by omega) (by omega) (fun hb63_1 => ?_) (fun hb63_1 => ?_)
    · skip
      exfalso; omega
    · skip
      refine j_aload_n rfl rfl ?_
      refine j_getR (q := 141) rfl f_X12_175 rfl (hS.lt (by decide)) (hS.k (by decide) (by decide)) (hS.r (by decide)) ?_
      refine j_iload rfl rfl ?_
      refine j_lconst (v := 0) rfl (by decide) ?_
      refine j_last (n := 360) rfl (hS.lt (by decide)) (hS.k (by decide) (by decide)) (hS.n (by decide) (by decide)) (by omega) (by omega) (by first | decide | omega) ?_
      refine j_aload_n rfl rfl ?_
      refine j_getR (q := 142) rfl f_X12_178 rfl (hS.lt (by decide)) (hS.k (by decide) (by decide)) (hS.r (by decide)) ?_
      refine j_iload rfl rfl ?_
      refine j_iconst rfl ?_
      refine j_zast (n := 360) rfl (hS.lt (by decide)) (hS.k (by decide) (by decide)) (hS.n (by decide) (by decide)) (by omega) (by omega) (by first | decide | omega) (by decide) ?_
      refine j_iinc rfl rfl (by decide) ?_
      refine j_goto (tgt := 54) rfl (by decide) ?_
      refine j_loc (ls' := [(0, vR 86), (1, vI s), (2, vI sort), (3, vI n), (4, vI (k + 1))]) rfl ?_
      exact ih (k + 1) _ hS (by omega) (by omega) hE

set_option maxRecDepth 20000 in
theorem ct_X12_row {G : QW} {m : AM} {s sort n : Int} (hS : St m) (hI : IM m) (hs1 : -2147483648 ≤ s) (hs2 : s < 2147483648) (hsort1 : -2147483648 ≤ sort) (hsort2 : sort < 2147483648) (hn1 : -2147483648 ≤ n) (hn2 : n < 2147483648) : qM G mX12_row 2 0 0 [vR 86, vI s, vI sort, vI n] m (fun r m' => r = some (vI (rowR m s sort n).1) ∧ m' = (rowR m s sort n).2) := by
  refine qM.intro okX12_row (Nat.le_of_ble_eq_true rfl) ?_
  refine j_iload_n rfl rfl ?_
  refine j_callS (As := [_]) rfl okX12_isShelf c_X12_278 (ct_X12_isShelf (by omega) (by omega)) rfl rfl (Nat.le_of_ble_eq_true rfl) (by decide) (by decide) ?_
  rintro vq mq ⟨e1, e2⟩
  rw [e1, e2]
  clear e1 e2
  simp only [Option.toList_some, Option.toList_none, List.cons_append, List.nil_append]
  refine j_bif_eq (tgt := 22) rfl (by decide) (fun hb4_1 => ?_) (fun hb4_1 => ?_)
  · skip
    refine j_iconst rfl ?_
    refine j_iret rfl rfl ?_ rfl (Nat.le_refl _)
    exact ⟨by unfold rowR; rw [if_neg (by omega)], by unfold rowR; rw [if_neg (by omega)]⟩
  · skip
    refine j_iload_n rfl rfl ?_
    refine j_iconst rfl ?_
    refine j_iconst rfl ?_
    refine j_callS (As := [_, _, _]) rfl okX12_in c_X12_194 (ct_X12_in (by omega) (by omega) (by omega) (by omega) (by omega) (by omega)) rfl rfl (Nat.le_of_ble_eq_true rfl) (by decide) (by decide) ?_
    rintro vq mq ⟨e1, e2⟩
    rw [e1, e2]
    clear e1 e2
    simp only [Option.toList_some, Option.toList_none, List.cons_append, List.nil_append]
    refine j_bif_eq (tgt := 22) rfl (by decide) (fun hb13_1 => ?_) (fun hb13_1 => ?_)
    · skip
      refine j_iconst rfl ?_
      refine j_iret rfl rfl ?_ rfl (Nat.le_refl _)
      exact ⟨by unfold rowR; rw [if_neg (by omega)], by unfold rowR; rw [if_neg (by omega)]⟩
    · skip
      refine j_iload_n rfl rfl ?_
      refine j_bipush rfl (by decide) ?_
      refine j_icmp_le (tgt := 24) rfl (by decide) (by omega) (by omega) (by omega) (by omega) (fun hb19_1 => ?_) (fun hb19_1 => ?_)
      · skip
        refine j_iload_n rfl rfl ?_
        refine j_if_ge (tgt := 31) rfl (by decide) (by omega) (by omega) (fun hb25_1 => ?_) (fun hb25_1 => ?_)
        · skip
          refine j_aload_n rfl rfl ?_
          refine j_getR (q := 139) rfl f_X12_169 rfl (hS.lt (by decide)) (hS.k (by decide) (by decide)) (hS.r (by decide)) ?_
          refine j_iload_n rfl rfl ?_
          refine j_bipush rfl (by decide) ?_
          refine j_iload_n rfl rfl ?_
          refine j_isub rfl ?_
          refine j_iast (n := 6) rfl (hS.lt (by decide)) (hS.k (by decide) (by decide)) (hS.n (by decide) (by decide)) (by omega) (by omega) (by first | decide | omega) ?_
          refine j_aload_n rfl rfl ?_
          refine j_getR (q := 140) rfl f_X12_172 rfl (hS.lt (by decide)) (hS.k (by decide) (by decide)) (hS.r (by decide)) ?_
          refine j_iload_n rfl rfl ?_
          refine j_iload_n rfl rfl ?_
          refine j_iast (n := 6) rfl (hS.lt (by decide)) (hS.k (by decide) (by decide)) (hS.n (by decide) (by decide)) (by omega) (by omega) (by first | decide | omega) ?_
          refine j_bipush rfl (by decide) ?_
          refine j_iload_n rfl rfl ?_
          refine j_imul rfl ?_
          refine j_istore rfl (by decide) ?_
          refine j_loc (ls' := [(0, vR 86), (1, vI s), (2, vI sort), (3, vI n), (4, vI (60 * s))]) rfl ?_
          exact lp_row_54 (E := rowM m s sort n) (by omega) (by omega) ⟨by unfold rowR; rw [if_pos (by omega), if_neg (by omega)], by unfold rowR; rw [if_pos (by omega), if_neg (by omega)]⟩ 60 _ _ hS (by omega) (by omega) rfl
        · skip
          refine j_bipush rfl (by decide) ?_
          refine j_iret rfl rfl ?_ rfl (Nat.le_refl _)
          exact ⟨by unfold rowR; rw [if_pos (by omega), if_pos (by omega)], by unfold rowR; rw [if_pos (by omega), if_pos (by omega)]⟩
      · skip
        refine j_iconst rfl ?_
        refine j_iret rfl rfl ?_ rfl (Nat.le_refl _)
        exact ⟨by unfold rowR; rw [if_neg (by omega)], by unfold rowR; rw [if_neg (by omega)]⟩

/-- places held for a shift, and put, from k on -/
def shA (s i : Int) : Nat → Int → AM → AM
  | 0, _, N => N
  | x + 1, k, N => shA s i x (k + 1) (si (sl N 143 k.toNat (ml N 141 (((60 * s) + i) + k).toNat)) 144 k.toNat (mi N 142 (((60 * s) + i) + k).toNat))
def shB (o j : Int) : Nat → Int → AM → AM
  | 0, _, N => N
  | x + 1, k, N => shB o j x (k + 1) (si (sl N 141 (((60 * o) + j) + k).toNat (ml N 143 k.toNat)) 142 (((60 * o) + j) + k).toNat (mi N 144 k.toNat))
def shM (m : AM) (s i o j n : Int) : AM := shB o j n.toNat 0 (shA s i n.toNat 0 m)
/-- shift() of the reference -/
def shiR (m : AM) (s i o j n : Int) : Int × AM :=
  if (0 ≤ s ∧ s ≤ 5) ∧ (0 ≤ o ∧ o ≤ 5) then
    if mi m 139 s.toNat = -1 ∨ mi m 139 o.toNat = -1 then (-11, m)
    else if mi m 139 s.toNat ≥ 0 ∨ mi m 139 s.toNat ≠ mi m 139 o.toNat then (-12, m)
    else if n < 0 ∨ i < 0 ∨ j < 0 ∨ i > mi m 140 s.toNat - n ∨ j > mi m 140 o.toNat - n then (-13, m)
    else (n, shM m s i o j n)
  else (-1, m)
def B01 (N : AM) : Prop := (∀ k : Nat, 0 ≤ mi N 142 k ∧ mi N 142 k ≤ 1) ∧ ∀ k : Nat, 0 ≤ mi N 144 k ∧ mi N 144 k ≤ 1
theorem B01.sl {N : AM} (h : B01 N) (o k : Nat) (v : Int) : B01 (sl N o k v) := h
theorem B01.put {N : AM} (h : B01 N) (o k : Nat) {v : Int} (h0 : 0 ≤ v ∧ v ≤ 1) : B01 (si N o k v) := by
  have g : ∀ p j : Nat, 0 ≤ mi N p j ∧ mi N p j ≤ 1 → 0 ≤ mi (si N o k v) p j ∧ mi (si N o k v) p j ≤ 1 := by
    intro p j hp
    by_cases e : p = o ∧ j = k
    · rw [e.1, e.2, mi_si_same _ _ _ (by omega) (by omega)]; exact h0
    · rw [mi_si_ne _ _ e]; exact hp
  exact ⟨fun j => g _ _ (h.1 j), fun j => g _ _ (h.2 j)⟩

set_option maxRecDepth 20000 in
theorem lp_shift_113 {G : QW} {E : AM} {s i o j n : Int} {Rp : Option Vl → AM → Prop} (hs0 : 0 ≤ s ∧ s ≤ 5) (ho0 : 0 ≤ o ∧ o ≤ 5) (hi0 : 0 ≤ i ∧ i + n ≤ 60) (hj0 : 0 ≤ j ∧ j + n ≤ 60) (hexit : St E → B01 E → qJ G mX12_shift { frames := 2, cells := 0, slots := 0, locals := 60 * 2 } (qF G Rp 0 0) 168 [(0, vR 86), (1, vI s), (2, vI i), (3, vI o), (4, vI j), (5, vI n)] [] E 0 0) : ∀ (x : Nat) (k : Int) (N : AM), St N → B01 N → k + x = n → 0 ≤ k → shA s i x k N = E → qJ G mX12_shift { frames := 2, cells := 0, slots := 0, locals := 60 * 2 } (qF G Rp 0 0) 113 [(0, vR 86), (1, vI s), (2, vI i), (3, vI o), (4, vI j), (5, vI n), (6, vI k)] [] N 0 0 := by
  intro x
  induction x with
  | zero =>
    intro k N hS hb hx hk0 hE
    refine j_iload rfl rfl ?_
    refine j_iload rfl rfl ?_
    refine j_icmp_ge (tgt := 168) rfl (by decide) (by omega) (by omega) (by omega) (by omega) (fun hb117_1 => ?_) (fun hb117_1 => ?_)
    · skip
      have hE : N = E := hE
      subst hE
      refine j_loc (ls' := [(0, vR 86), (1, vI s), (2, vI i), (3, vI o), (4, vI j), (5, vI n)]) rfl ?_
      exact hexit hS hb
    · skip
      exfalso; omega
  | succ x ih =>
    intro k N hS hb hx hk0 hE
    have hb1 := hb.1 (((60 * s) + i) + k).toNat
    have hb2 := hb.2 k.toNat
    simp only [shA] at hE
    refine j_iload rfl rfl ?_
    refine j_iload rfl rfl ?_
    refine j_icmp_ge (tgt := 168) rfl (by decide) (by omega) (by omega) (by omega) (by omega) (fun hb117_1 => ?_) (fun hb117_1 => ?_)
    · skip
      exfalso; omega
    · skip
      refine j_aload_n rfl rfl ?_
      refine j_getR (q := 143) rfl f_X12_181 rfl (hS.lt (by decide)) (hS.k (by decide) (by decide)) (hS.r (by decide)) ?_
      refine j_iload rfl rfl ?_
      refine j_aload_n rfl rfl ?_
      refine j_getR (q := 141) rfl f_X12_175 rfl (hS.lt (by decide)) (hS.k (by decide) (by decide)) (hS.r (by decide)) ?_
      refine j_bipush rfl (by decide) ?_
      refine j_iload_n rfl rfl ?_
      refine j_imul rfl ?_
      refine j_iload_n rfl rfl ?_
      refine j_iadd rfl ?_
      refine j_iload rfl rfl ?_
      refine j_iadd rfl ?_
      refine j_lald (n := 360) rfl (hS.lt (by decide)) (hS.k (by decide) (by decide)) (hS.n (by decide) (by decide)) (by omega) (by omega) (by decide) ?_
      have u139_1 := ml_rng N 141 (((60 * s) + i) + k).toNat
      refine j_last (n := 60) rfl (hS.lt (by decide)) (hS.k (by decide) (by decide)) (hS.n (by decide) (by decide)) (by omega) (by omega) (by first | decide | omega) ?_
      refine j_aload_n rfl rfl ?_
      refine j_getR (q := 144) rfl f_X12_184 rfl (hS.lt (by decide)) (hS.k (by decide) (by decide)) (hS.r (by decide)) ?_
      refine j_iload rfl rfl ?_
      refine j_aload_n rfl rfl ?_
      refine j_getR (q := 142) rfl f_X12_178 rfl (hS.lt (by decide)) (hS.k (by decide) (by decide)) (hS.r (by decide)) ?_
      refine j_bipush rfl (by decide) ?_
      refine j_iload_n rfl rfl ?_
      refine j_imul rfl ?_
      refine j_iload_n rfl rfl ?_
      refine j_iadd rfl ?_
      refine j_iload rfl rfl ?_
      refine j_iadd rfl ?_
      refine j_zald (n := 360) rfl (hS.lt (by decide)) (hS.k (by decide) (by decide)) (hS.n (by decide) (by decide)) (by omega) (by omega) (by decide) ?_
      rw [show mi (sl N 143 k.toNat (ml N 141 (((60 * s) + i) + k).toNat)) 142 (((60 * s) + i) + k).toNat = mi N 142 (((60 * s) + i) + k).toNat from by simp [mi_si, mi_fil, mi_cpr, mi_sl, mi_sr, ml_sl, ml_si, ml_sr, ml_fil, ml_cpr]]
      have u160_1 := mi_rng N 142 (((60 * s) + i) + k).toNat
      refine j_zast (n := 60) rfl (hS.lt (by decide)) (hS.k (by decide) (by decide)) (hS.n (by decide) (by decide)) (by omega) (by omega) (by first | decide | omega) (by omega) ?_
      refine j_iinc rfl rfl (by decide) ?_
      refine j_goto (tgt := 113) rfl (by decide) ?_
      refine j_loc (ls' := [(0, vR 86), (1, vI s), (2, vI i), (3, vI o), (4, vI j), (5, vI n), (6, vI (k + 1))]) rfl ?_
      refine ih (k + 1) _ hS ?_ (by omega) (by omega) ?_
      · exact (hb.sl _ _ _).put _ _ (by omega)
      · exact hE

set_option maxRecDepth 20000 in
theorem lp_shift_171 {G : QW} {E : AM} {s i o j n : Int} {Rp : Option Vl → AM → Prop} (hs0 : 0 ≤ s ∧ s ≤ 5) (ho0 : 0 ≤ o ∧ o ≤ 5) (hi0 : 0 ≤ i ∧ i + n ≤ 60) (hj0 : 0 ≤ j ∧ j + n ≤ 60) (hfin : Rp (some (vI n)) E) : ∀ (x : Nat) (k : Int) (N : AM), St N → B01 N → k + x = n → 0 ≤ k → shB o j x k N = E → qJ G mX12_shift { frames := 2, cells := 0, slots := 0, locals := 60 * 2 } (qF G Rp 0 0) 171 [(0, vR 86), (1, vI s), (2, vI i), (3, vI o), (4, vI j), (5, vI n), (6, vI k)] [] N 0 0 := by
  intro x
  induction x with
  | zero =>
    intro k N hS hb hx hk0 hE
    refine j_iload rfl rfl ?_
    refine j_iload rfl rfl ?_
    refine j_icmp_ge (tgt := 228) rfl (by decide) (by omega) (by omega) (by omega) (by omega) (fun hb175_1 => ?_) (fun hb175_1 => ?_)
    · skip
      refine j_iload rfl rfl ?_
      refine j_iret rfl rfl ?_ rfl (Nat.le_refl _)
      have hE : N = E := hE
      subst hE
      exact hfin
    · skip
      exfalso; omega
  | succ x ih =>
    intro k N hS hb hx hk0 hE
    have hb1 := hb.1 (((60 * s) + i) + k).toNat
    have hb2 := hb.2 k.toNat
    simp only [shB] at hE
    refine j_iload rfl rfl ?_
    refine j_iload rfl rfl ?_
    refine j_icmp_ge (tgt := 228) rfl (by decide) (by omega) (by omega) (by omega) (by omega) (fun hb175_1 => ?_) (fun hb175_1 => ?_)
    · skip
      exfalso; omega
    · skip
      refine j_aload_n rfl rfl ?_
      refine j_getR (q := 141) rfl f_X12_175 rfl (hS.lt (by decide)) (hS.k (by decide) (by decide)) (hS.r (by decide)) ?_
      refine j_bipush rfl (by decide) ?_
      refine j_iload_n rfl rfl ?_
      refine j_imul rfl ?_
      refine j_iload rfl rfl ?_
      refine j_iadd rfl ?_
      refine j_iload rfl rfl ?_
      refine j_iadd rfl ?_
      refine j_aload_n rfl rfl ?_
      refine j_getR (q := 143) rfl f_X12_181 rfl (hS.lt (by decide)) (hS.k (by decide) (by decide)) (hS.r (by decide)) ?_
      refine j_iload rfl rfl ?_
      refine j_lald (n := 60) rfl (hS.lt (by decide)) (hS.k (by decide) (by decide)) (hS.n (by decide) (by decide)) (by omega) (by omega) (by decide) ?_
      have u198_1 := ml_rng N 143 k.toNat
      refine j_last (n := 360) rfl (hS.lt (by decide)) (hS.k (by decide) (by decide)) (hS.n (by decide) (by decide)) (by omega) (by omega) (by first | decide | omega) ?_
      refine j_aload_n rfl rfl ?_
      refine j_getR (q := 142) rfl f_X12_178 rfl (hS.lt (by decide)) (hS.k (by decide) (by decide)) (hS.r (by decide)) ?_
      refine j_bipush rfl (by decide) ?_
      refine j_iload_n rfl rfl ?_
      refine j_imul rfl ?_
      refine j_iload rfl rfl ?_
      refine j_iadd rfl ?_
      refine j_iload rfl rfl ?_
      refine j_iadd rfl ?_
      refine j_aload_n rfl rfl ?_
      refine j_getR (q := 144) rfl f_X12_184 rfl (hS.lt (by decide)) (hS.k (by decide) (by decide)) (hS.r (by decide)) ?_
      refine j_iload rfl rfl ?_
      refine j_zald (n := 60) rfl (hS.lt (by decide)) (hS.k (by decide) (by decide)) (hS.n (by decide) (by decide)) (by omega) (by omega) (by decide) ?_
      rw [show mi (sl N 141 (((60 * o) + j) + k).toNat (ml N 143 k.toNat)) 144 k.toNat = mi N 144 k.toNat from by simp [mi_si, mi_fil, mi_cpr, mi_sl, mi_sr, ml_sl, ml_si, ml_sr, ml_fil, ml_cpr]]
      have u220_1 := mi_rng N 144 k.toNat
      refine j_zast (n := 360) rfl (hS.lt (by decide)) (hS.k (by decide) (by decide)) (hS.n (by decide) (by decide)) (by omega) (by omega) (by first | decide | omega) (by omega) ?_
      refine j_iinc rfl rfl (by decide) ?_
      refine j_goto (tgt := 171) rfl (by decide) ?_
      refine j_loc (ls' := [(0, vR 86), (1, vI s), (2, vI i), (3, vI o), (4, vI j), (5, vI n), (6, vI (k + 1))]) rfl ?_
      refine ih (k + 1) _ hS ?_ (by omega) (by omega) ?_
      · exact (hb.sl _ _ _).put _ _ (by omega)
      · exact hE

set_option maxRecDepth 20000 in
set_option maxHeartbeats 4000000 in
theorem ct_X12_shift {G : QW} {m : AM} {s i o j n : Int} (hS : St m) (hI : IM m) (hs1 : -2147483648 ≤ s) (hs2 : s < 2147483648) (hi1 : -2147483648 ≤ i) (hi2 : i < 2147483648) (ho1 : -2147483648 ≤ o) (ho2 : o < 2147483648) (hj1 : -2147483648 ≤ j) (hj2 : j < 2147483648) (hn1 : -2147483648 ≤ n) (hn2 : n < 2147483648) : qM G mX12_shift 2 0 0 [vR 86, vI s, vI i, vI o, vI j, vI n] m (fun r m' => r = some (vI (shiR m s i o j n).1) ∧ m' = (shiR m s i o j n).2) := by
  refine qM.intro okX12_shift (Nat.le_of_ble_eq_true rfl) ?_
  have hb : B01 m := ⟨fun k => hI.a 142 0 1 (by decide) k, fun k => hI.a 144 0 1 (by decide) k⟩
  have hz1 := hI.a 140 0 60 (by decide) s.toNat
  have hz2 := hI.a 140 0 60 (by decide) o.toNat
  refine j_iload_n rfl rfl ?_
  refine j_callS (As := [_]) rfl okX12_isShelf c_X12_278 (ct_X12_isShelf (by omega) (by omega)) rfl rfl (Nat.le_of_ble_eq_true rfl) (by decide) (by decide) ?_
  rintro vq mq ⟨e1, e2⟩
  rw [e1, e2]
  clear e1 e2
  simp only [Option.toList_some, Option.toList_none, List.cons_append, List.nil_append]
  refine j_bif_eq (tgt := 14) rfl (by decide) (fun hb4_1 => ?_) (fun hb4_1 => ?_)
  · skip
    refine j_iconst rfl ?_
    refine j_iret rfl rfl ?_ rfl (Nat.le_refl _)
    exact ⟨by unfold shiR; rw [if_neg (by omega)], by unfold shiR; rw [if_neg (by omega)]⟩
  · skip
    refine j_iload_n rfl rfl ?_
    refine j_callS (As := [_]) rfl okX12_isShelf c_X12_278 (ct_X12_isShelf (by omega) (by omega)) rfl rfl (Nat.le_of_ble_eq_true rfl) (by decide) (by decide) ?_
    rintro vq mq ⟨e1, e2⟩
    rw [e1, e2]
    clear e1 e2
    simp only [Option.toList_some, Option.toList_none, List.cons_append, List.nil_append]
    refine j_bif_ne (tgt := 16) rfl (by decide) (fun hb11_1 => ?_) (fun hb11_1 => ?_)
    · skip
      refine j_aload_n rfl rfl ?_
      refine j_getR (q := 139) rfl f_X12_169 rfl (hS.lt (by decide)) (hS.k (by decide) (by decide)) (hS.r (by decide)) ?_
      refine j_iload_n rfl rfl ?_
      refine j_iald (n := 6) rfl (hS.lt (by decide)) (hS.k (by decide) (by decide)) (hS.n (by decide) (by decide)) (by omega) (by omega) (by decide) ?_
      have u21_1 := hI.a 139 (-6) 5 (by decide) s.toNat
      refine j_iconst rfl ?_
      refine j_icmp_eq (tgt := 36) rfl (by decide) (by omega) (by omega) (by omega) (by omega) (fun hb23_1 => ?_) (fun hb23_1 => ?_)
      · skip
        refine j_bipush rfl (by decide) ?_
        refine j_iret rfl rfl ?_ rfl (Nat.le_refl _)
        exact ⟨by unfold shiR; rw [if_pos (by omega), if_pos (by omega)], by unfold shiR; rw [if_pos (by omega), if_pos (by omega)]⟩
      · skip
        refine j_aload_n rfl rfl ?_
        refine j_getR (q := 139) rfl f_X12_169 rfl (hS.lt (by decide)) (hS.k (by decide) (by decide)) (hS.r (by decide)) ?_
        refine j_iload_n rfl rfl ?_
        refine j_iald (n := 6) rfl (hS.lt (by decide)) (hS.k (by decide) (by decide)) (hS.n (by decide) (by decide)) (by omega) (by omega) (by decide) ?_
        have u31_1 := hI.a 139 (-6) 5 (by decide) o.toNat
        refine j_iconst rfl ?_
        refine j_icmp_ne (tgt := 39) rfl (by decide) (by omega) (by omega) (by omega) (by omega) (fun hb33_1 => ?_) (fun hb33_1 => ?_)
        · skip
          refine j_aload_n rfl rfl ?_
          refine j_getR (q := 139) rfl f_X12_169 rfl (hS.lt (by decide)) (hS.k (by decide) (by decide)) (hS.r (by decide)) ?_
          refine j_iload_n rfl rfl ?_
          refine j_iald (n := 6) rfl (hS.lt (by decide)) (hS.k (by decide) (by decide)) (hS.n (by decide) (by decide)) (by omega) (by omega) (by decide) ?_
          have u44_1 := hI.a 139 (-6) 5 (by decide) s.toNat
          refine j_if_ge (tgt := 63) rfl (by decide) (by omega) (by omega) (fun hb45_1 => ?_) (fun hb45_1 => ?_)
          · skip
            refine j_bipush rfl (by decide) ?_
            refine j_iret rfl rfl ?_ rfl (Nat.le_refl _)
            exact ⟨by unfold shiR; rw [if_pos (by omega), if_neg (by omega), if_pos (by omega)], by unfold shiR; rw [if_pos (by omega), if_neg (by omega), if_pos (by omega)]⟩
          · skip
            refine j_aload_n rfl rfl ?_
            refine j_getR (q := 139) rfl f_X12_169 rfl (hS.lt (by decide)) (hS.k (by decide) (by decide)) (hS.r (by decide)) ?_
            refine j_iload_n rfl rfl ?_
            refine j_iald (n := 6) rfl (hS.lt (by decide)) (hS.k (by decide) (by decide)) (hS.n (by decide) (by decide)) (by omega) (by omega) (by decide) ?_
            have u53_1 := hI.a 139 (-6) 5 (by decide) s.toNat
            refine j_aload_n rfl rfl ?_
            refine j_getR (q := 139) rfl f_X12_169 rfl (hS.lt (by decide)) (hS.k (by decide) (by decide)) (hS.r (by decide)) ?_
            refine j_iload_n rfl rfl ?_
            refine j_iald (n := 6) rfl (hS.lt (by decide)) (hS.k (by decide) (by decide)) (hS.n (by decide) (by decide)) (by omega) (by omega) (by decide) ?_
            have u59_1 := hI.a 139 (-6) 5 (by decide) o.toNat
            refine j_icmp_eq (tgt := 66) rfl (by decide) (by omega) (by omega) (by omega) (by omega) (fun hb60_1 => ?_) (fun hb60_1 => ?_)
            · skip
              refine j_iload rfl rfl ?_
              refine j_if_lt (tgt := 107) rfl (by decide) (by omega) (by omega) (fun hb68_1 => ?_) (fun hb68_1 => ?_)
              · skip
                refine j_bipush rfl (by decide) ?_
                refine j_iret rfl rfl ?_ rfl (Nat.le_refl _)
                exact ⟨by unfold shiR; rw [if_pos (by omega), if_neg (by omega), if_neg (by omega), if_pos (by omega)], by unfold shiR; rw [if_pos (by omega), if_neg (by omega), if_neg (by omega), if_pos (by omega)]⟩
              · skip
                refine j_iload_n rfl rfl ?_
                refine j_if_lt (tgt := 107) rfl (by decide) (by omega) (by omega) (fun hb72_1 => ?_) (fun hb72_1 => ?_)
                · skip
                  refine j_bipush rfl (by decide) ?_
                  refine j_iret rfl rfl ?_ rfl (Nat.le_refl _)
                  exact ⟨by unfold shiR; rw [if_pos (by omega), if_neg (by omega), if_neg (by omega), if_pos (by omega)], by unfold shiR; rw [if_pos (by omega), if_neg (by omega), if_neg (by omega), if_pos (by omega)]⟩
                · skip
                  refine j_iload rfl rfl ?_
                  refine j_if_lt (tgt := 107) rfl (by decide) (by omega) (by omega) (fun hb77_1 => ?_) (fun hb77_1 => ?_)
                  · skip
                    refine j_bipush rfl (by decide) ?_
                    refine j_iret rfl rfl ?_ rfl (Nat.le_refl _)
                    exact ⟨by unfold shiR; rw [if_pos (by omega), if_neg (by omega), if_neg (by omega), if_pos (by omega)], by unfold shiR; rw [if_pos (by omega), if_neg (by omega), if_neg (by omega), if_pos (by omega)]⟩
                  · skip
                    refine j_iload_n rfl rfl ?_
                    refine j_aload_n rfl rfl ?_
                    refine j_getR (q := 140) rfl f_X12_172 rfl (hS.lt (by decide)) (hS.k (by decide) (by decide)) (hS.r (by decide)) ?_
                    refine j_iload_n rfl rfl ?_
                    refine j_iald (n := 6) rfl (hS.lt (by decide)) (hS.k (by decide) (by decide)) (hS.n (by decide) (by decide)) (by omega) (by omega) (by decide) ?_
                    have u86_1 := hI.a 140 (0) 60 (by decide) s.toNat
                    refine j_iload rfl rfl ?_
                    refine j_isub rfl ?_
                    refine j_icmp_gt (tgt := 107) rfl (by decide) (by omega) (by omega) (by omega) (by omega) (fun hb90_1 => ?_) (fun hb90_1 => ?_)
                    · skip
                      refine j_bipush rfl (by decide) ?_
                      refine j_iret rfl rfl ?_ rfl (Nat.le_refl _)
                      exact ⟨by unfold shiR; rw [if_pos (by omega), if_neg (by omega), if_neg (by omega), if_pos (by omega)], by unfold shiR; rw [if_pos (by omega), if_neg (by omega), if_neg (by omega), if_pos (by omega)]⟩
                    · skip
                      refine j_iload rfl rfl ?_
                      refine j_aload_n rfl rfl ?_
                      refine j_getR (q := 140) rfl f_X12_172 rfl (hS.lt (by decide)) (hS.k (by decide) (by decide)) (hS.r (by decide)) ?_
                      refine j_iload_n rfl rfl ?_
                      refine j_iald (n := 6) rfl (hS.lt (by decide)) (hS.k (by decide) (by decide)) (hS.n (by decide) (by decide)) (by omega) (by omega) (by decide) ?_
                      have u100_1 := hI.a 140 (0) 60 (by decide) o.toNat
                      refine j_iload rfl rfl ?_
                      refine j_isub rfl ?_
                      refine j_icmp_le (tgt := 110) rfl (by decide) (by omega) (by omega) (by omega) (by omega) (fun hb104_1 => ?_) (fun hb104_1 => ?_)
                      · skip
                        refine j_iconst rfl ?_
                        refine j_istore rfl (by decide) ?_
                        refine j_loc (ls' := [(0, vR 86), (1, vI s), (2, vI i), (3, vI o), (4, vI j), (5, vI n), (6, vI 0)]) rfl ?_
                        refine lp_shift_113 (E := shA s i n.toNat 0 m) (by omega) (by omega) (by omega) (by omega) (fun hSE hbE => ?_) n.toNat 0 m hS hb (by omega) (by omega) rfl
                        refine j_iconst rfl ?_
                        refine j_istore rfl (by decide) ?_
                        refine j_loc (ls' := [(0, vR 86), (1, vI s), (2, vI i), (3, vI o), (4, vI j), (5, vI n), (6, vI 0)]) rfl ?_
                        exact lp_shift_171 (E := shM m s i o j n) (by omega) (by omega) (by omega) (by omega) ⟨by unfold shiR; rw [if_pos (by omega), if_neg (by omega), if_neg (by omega), if_neg (by omega)], by unfold shiR; rw [if_pos (by omega), if_neg (by omega), if_neg (by omega), if_neg (by omega)]⟩ n.toNat 0 _ hSE hbE (by omega) (by omega) rfl
                      · skip
                        refine j_bipush rfl (by decide) ?_
                        refine j_iret rfl rfl ?_ rfl (Nat.le_refl _)
                        exact ⟨by unfold shiR; rw [if_pos (by omega), if_neg (by omega), if_neg (by omega), if_pos (by omega)], by unfold shiR; rw [if_pos (by omega), if_neg (by omega), if_neg (by omega), if_pos (by omega)]⟩
            · skip
              refine j_bipush rfl (by decide) ?_
              refine j_iret rfl rfl ?_ rfl (Nat.le_refl _)
              exact ⟨by unfold shiR; rw [if_pos (by omega), if_neg (by omega), if_pos (by omega)], by unfold shiR; rw [if_pos (by omega), if_neg (by omega), if_pos (by omega)]⟩
        · skip
          refine j_bipush rfl (by decide) ?_
          refine j_iret rfl rfl ?_ rfl (Nat.le_refl _)
          exact ⟨by unfold shiR; rw [if_pos (by omega), if_pos (by omega)], by unfold shiR; rw [if_pos (by omega), if_pos (by omega)]⟩
    · skip
      refine j_iconst rfl ?_
      refine j_iret rfl rfl ?_ rfl (Nat.le_refl _)
      exact ⟨by unfold shiR; rw [if_neg (by omega)], by unfold shiR; rw [if_neg (by omega)]⟩


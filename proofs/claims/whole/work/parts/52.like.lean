/-- lines of a box from l on that can go over, of all boxes: the i-th one (1, it), or how many (0, n) -/
def lkI (m : AM) (k i b : Int) : Nat → Int → Int → Int × Int
  | 0, _, n => (0, n)
  | x + 1, l, n => if ovF m k b l = 0 then lkI m k i b x (l + 1) n else if n = i then (1, (100 * b) + l) else lkI m k i b x (l + 1) (n + 1)
def lkO (m : AM) (k i : Int) : Nat → Int → Int → Int × Int
  | 0, _, n => (0, n)
  | x + 1, b, n => if (lkI m k i b (mi m 91 b.toNat).toNat 0 n).1 ≠ 0 then lkI m k i b (mi m 91 b.toNat).toNat 0 n else lkO m k i x (b + 1) (lkI m k i b (mi m 91 b.toNat).toNat 0 n).2
def likR (m : AM) (k i : Int) : Int :=
  if (0 ≤ k ∧ k ≤ 1) ∧ i ≥ -1 then
    if (lkO m k i (mi m 86 1).toNat 0 0).1 ≠ 0 then (lkO m k i (mi m 86 1).toNat 0 0).2 else if i < 0 then (lkO m k i (mi m 86 1).toNat 0 0).2 else -1
  else -1
theorem lkI_n {m : AM} {k i b : Int} : ∀ (x : Nat) (l n : Int), (lkI m k i b x l n).1 = 0 → n ≤ (lkI m k i b x l n).2 ∧ (lkI m k i b x l n).2 ≤ n + x := by
  intro x
  induction x with
  | zero => intro l n _; show n ≤ n ∧ n ≤ n + ((0 : Nat) : Int); omega
  | succ x ih =>
    intro l n
    simp only [lkI]
    split
    · intro q; have := ih _ _ q; omega
    · split
      · intro q; exact absurd q (by dsimp only; decide)
      · intro q; have := ih _ _ q; omega

set_option maxRecDepth 20000 in
set_option maxHeartbeats 4000000 in
theorem lp_like_31 {G : QW} {m : AM} {k b i : Int} {E : Int × Int} {Rp : Option Vl → AM → Prop} (h : RS m) (hk0 : 0 ≤ k) (hk1 : k ≤ 1) (hb0 : 0 ≤ b) (hb : b < mi m 86 1) (hi : -1 ≤ i) (hi2 : i < 2147483648) (hfound : ∀ M, SameP m M → E.1 ≠ 0 → Rp (some (vI E.2)) M) (hnone : ∀ M, SameP m M → E.1 = 0 → qJ G mX12_like { frames := 4, cells := 0, slots := 0, locals := 60 * 4 } (qF G Rp 0 0) 81 [(0, vR 86), (1, vI k), (2, vI i), (3, vI E.2), (4, vI b)] [] M 0 0) : ∀ (x : Nat) (l n : Int) (M : AM), l + x = mi m 91 b.toNat → 0 ≤ l → 0 ≤ n → n + x ≤ 1000 → SameP m M → lkI m k i b x l n = E → qJ G mX12_like { frames := 4, cells := 0, slots := 0, locals := 60 * 4 } (qF G Rp 0 0) 31 [(0, vR 86), (1, vI k), (2, vI i), (3, vI n), (4, vI b), (5, vI l)] [] M 0 0 := by
  have hbx := h.1.i.s 86 1 0 6 (by decide)
  have h91 := h.1.i.a 91 0 12 (by decide) b.toNat
  intro x
  induction x with
  | zero =>
    intro l n M hx hl0 hn0 hn1 hs hE
    have hM := h.of hs
    have e91 := hs.mi 91 b.toNat
    have e86 := hs.mi 86 1
    have hE : (0, n) = E := hE
    refine j_iload rfl rfl ?_
    refine j_aload_n rfl rfl ?_
    refine j_getR (q := 91) rfl f_X12_22 rfl (hM.1.s.lt (by decide)) (hM.1.s.k (by decide) (by decide)) (hM.1.s.r (by decide)) ?_
    refine j_iload rfl rfl ?_
    refine j_iald (n := 7) rfl (hM.1.s.lt (by decide)) (hM.1.s.k (by decide) (by decide)) (hM.1.s.n (by decide) (by decide)) (by omega) (by omega) (by decide) ?_
    have u39_1 := hM.1.i.a 91 (0) 12 (by decide) b.toNat
    refine j_icmp_ge (tgt := 81) rfl (by decide) (by omega) (by omega) (by omega) (by omega) (fun hb40_1 => ?_) (fun hb40_1 => ?_)
    · skip
      subst hE
      refine j_loc (ls' := [(0, vR 86), (1, vI k), (2, vI i), (3, vI n), (4, vI b)]) rfl ?_
      exact hnone M hs rfl
    · skip
      exfalso; omega
  | succ x ih =>
    intro l n M hx hl0 hn0 hn1 hs hE
    have hM := h.of hs
    have e91 := hs.mi 91 b.toNat
    have e86 := hs.mi 86 1
    simp only [lkI] at hE
    refine j_iload rfl rfl ?_
    refine j_aload_n rfl rfl ?_
    refine j_getR (q := 91) rfl f_X12_22 rfl (hM.1.s.lt (by decide)) (hM.1.s.k (by decide) (by decide)) (hM.1.s.r (by decide)) ?_
    refine j_iload rfl rfl ?_
    refine j_iald (n := 7) rfl (hM.1.s.lt (by decide)) (hM.1.s.k (by decide) (by decide)) (hM.1.s.n (by decide) (by decide)) (by omega) (by omega) (by decide) ?_
    have u39_1 := hM.1.i.a 91 (0) 12 (by decide) b.toNat
    refine j_icmp_ge (tgt := 81) rfl (by decide) (by omega) (by omega) (by omega) (by omega) (fun hb40_1 => ?_) (fun hb40_1 => ?_)
    · skip
      exfalso; omega
    · skip
      refine j_aload_n rfl rfl ?_
      refine j_iload_n rfl rfl ?_
      refine j_iload rfl rfl ?_
      refine j_iload rfl rfl ?_
      refine j_callV (ci := 12) rfl okX12_isOver c_X12_437 (ct_X12_isOver hM hk0 hk1 hb0 (by omega) (by omega) (by omega)) rfl rfl (hM.1.s.lt (by decide)) (hM.1.s.k (by decide) (by decide)) (by decide) rfl (Nat.le_of_ble_eq_true rfl) (by decide) (by decide) ?_
      rintro vq M2 ⟨e1, hs2⟩
      rw [e1, ovF_same hs]
      clear e1
      simp only [Option.toList_some, Option.toList_none, List.cons_append, List.nil_append]
      have h01 := ovF_01 m k b l
      have hs3 := hs.trans hs2
      have hM2 := h.of hs3
      refine j_if_ne (tgt := 58) rfl (by decide) (by omega) (by omega) (fun hb52_1 => ?_) (fun hb52_1 => ?_)
      · skip
        refine j_iload_n rfl rfl ?_
        refine j_iload_n rfl rfl ?_
        refine j_icmp_ne (tgt := 72) rfl (by decide) (by omega) (by omega) (by omega) (by omega) (fun hb60_1 => ?_) (fun hb60_1 => ?_)
        · skip
          refine j_iinc rfl rfl (by decide) ?_
          refine j_iinc rfl rfl (by decide) ?_
          refine j_goto (tgt := 31) rfl (by decide) ?_
          refine j_loc (ls' := [(0, vR 86), (1, vI k), (2, vI i), (3, vI (n + 1)), (4, vI b), (5, vI (l + 1))]) rfl ?_
          first | rw [if_pos (by omega)] at hE | rw [if_neg (by omega), if_neg (by omega)] at hE
          exact ih (l + 1) (n + 1) M2 (by omega) (by omega) (by omega) (by omega) hs3 hE
        · skip
          refine j_bipush rfl (by decide) ?_
          refine j_iload rfl rfl ?_
          refine j_imul rfl ?_
          refine j_iload rfl rfl ?_
          refine j_iadd rfl ?_
          refine j_iret rfl rfl ?_ rfl (Nat.le_refl _)
          rw [if_neg (by omega), if_pos (by omega)] at hE
          subst hE
          exact hfound M2 hs3 (by dsimp only; decide)
      · skip
        refine j_goto (tgt := 75) rfl (by decide) ?_
        refine j_iinc rfl rfl (by decide) ?_
        refine j_goto (tgt := 31) rfl (by decide) ?_
        refine j_loc (ls' := [(0, vR 86), (1, vI k), (2, vI i), (3, vI n), (4, vI b), (5, vI (l + 1))]) rfl ?_
        first | rw [if_pos (by omega)] at hE | rw [if_neg (by omega), if_neg (by omega)] at hE
        exact ih (l + 1) n M2 (by omega) (by omega) (by omega) (by omega) hs3 hE

set_option maxRecDepth 20000 in
set_option maxHeartbeats 4000000 in
theorem lp_like_19 {G : QW} {m : AM} {k i : Int} {E : Int × Int} {Rp : Option Vl → AM → Prop} (h : RS m) (hk0 : 0 ≤ k) (hk1 : k ≤ 1) (hi : -1 ≤ i) (hi2 : i < 2147483648) (hfound : ∀ M, SameP m M → E.1 ≠ 0 → Rp (some (vI E.2)) M) (hnone : ∀ M, SameP m M → 0 ≤ E.2 → E.2 ≤ 1000 → E.1 = 0 → qJ G mX12_like { frames := 4, cells := 0, slots := 0, locals := 60 * 4 } (qF G Rp 0 0) 87 [(0, vR 86), (1, vI k), (2, vI i), (3, vI E.2)] [] M 0 0) : ∀ (x : Nat) (b n : Int) (M : AM), b + x = mi m 86 1 → 0 ≤ b → 0 ≤ n → n ≤ 12 * b → SameP m M → lkO m k i x b n = E → qJ G mX12_like { frames := 4, cells := 0, slots := 0, locals := 60 * 4 } (qF G Rp 0 0) 19 [(0, vR 86), (1, vI k), (2, vI i), (3, vI n), (4, vI b)] [] M 0 0 := by
  have hbx := h.1.i.s 86 1 0 6 (by decide)
  intro x
  induction x with
  | zero =>
    intro b n M hx hb0 hn0 hn1 hs hE
    have h91 := h.1.i.a 91 0 12 (by decide) b.toNat
    have hM := h.of hs
    have e91 := hs.mi 91 b.toNat
    have e86 := hs.mi 86 1
    have hE : (0, n) = E := hE
    refine j_iload rfl rfl ?_
    refine j_aload_n rfl rfl ?_
    refine j_getI rfl f_X12_191 rfl (hM.1.s.lt (by decide)) (hM.1.s.k (by decide) (by decide)) ?_
    have u22_1 := hM.1.i.s 86 1 (0) 6 (by decide)
    refine j_icmp_ge (tgt := 87) rfl (by decide) (by omega) (by omega) (by omega) (by omega) (fun hb25_1 => ?_) (fun hb25_1 => ?_)
    · skip
      subst hE
      refine j_loc (ls' := [(0, vR 86), (1, vI k), (2, vI i), (3, vI n)]) rfl ?_
      exact hnone M hs hn0 (by omega) rfl
    · skip
      exfalso; omega
  | succ x ih =>
    intro b n M hx hb0 hn0 hn1 hs hE
    have h91 := h.1.i.a 91 0 12 (by decide) b.toNat
    have hM := h.of hs
    have e91 := hs.mi 91 b.toNat
    have e86 := hs.mi 86 1
    simp only [lkO] at hE
    refine j_iload rfl rfl ?_
    refine j_aload_n rfl rfl ?_
    refine j_getI rfl f_X12_191 rfl (hM.1.s.lt (by decide)) (hM.1.s.k (by decide) (by decide)) ?_
    have u22_1 := hM.1.i.s 86 1 (0) 6 (by decide)
    refine j_icmp_ge (tgt := 87) rfl (by decide) (by omega) (by omega) (by omega) (by omega) (fun hb25_1 => ?_) (fun hb25_1 => ?_)
    · skip
      exfalso; omega
    · skip
      refine j_iconst rfl ?_
      refine j_istore rfl (by decide) ?_
      refine j_loc (ls' := [(0, vR 86), (1, vI k), (2, vI i), (3, vI n), (4, vI b), (5, vI 0)]) rfl ?_
      refine lp_like_31 (E := (lkI m k i b (mi m 91 b.toNat).toNat 0 n)) h hk0 hk1 hb0 (by omega) hi hi2 (fun M2 hs2 hq => ?_) (fun M2 hs2 hq => ?_) (mi m 91 b.toNat).toNat 0 n M (by omega) (Int.le_refl 0) hn0 (by omega) hs rfl
      · rw [if_pos hq] at hE
        rw [hE] at hq ⊢
        exact hfound M2 hs2 hq
      · rw [if_neg (by omega)] at hE
        have hln := lkI_n _ _ _ hq
        refine j_iinc rfl rfl (by decide) ?_
        refine j_goto (tgt := 19) rfl (by decide) ?_
        refine j_loc (ls' := [(0, vR 86), (1, vI k), (2, vI i), (3, vI (lkI m k i b (mi m 91 b.toNat).toNat 0 n).2), (4, vI (b + 1))]) rfl ?_
        exact ih (b + 1) _ M2 (by omega) (by omega) (by omega) (by omega) hs2 hE

set_option maxRecDepth 20000 in
theorem ct_X12_like {G : QW} {m : AM} {k i : Int} (h : RS m) (hk1 : -2147483648 ≤ k) (hk2 : k < 2147483648) (hi1 : -2147483648 ≤ i) (hi2 : i < 2147483648) : qM G mX12_like 4 0 0 [vR 86, vI k, vI i] m (fun r m' => r = some (vI (likR m k i)) ∧ SameP m m') := by
  refine qM.intro okX12_like (Nat.le_of_ble_eq_true rfl) ?_
  refine j_iload_n rfl rfl ?_
  refine j_callS (As := [_]) rfl okX12_isMachine c_X12_399 (ct_X12_isMachine (by omega) (by omega)) rfl rfl (Nat.le_of_ble_eq_true rfl) (by decide) (by decide) ?_
  rintro vq mq ⟨e1, e2⟩
  rw [e1, e2]
  clear e1 e2
  simp only [Option.toList_some, Option.toList_none, List.cons_append, List.nil_append]
  refine j_bif_eq (tgt := 12) rfl (by decide) (fun hb4_1 => ?_) (fun hb4_1 => ?_)
  · skip
    refine j_iconst rfl ?_
    refine j_iret rfl rfl ?_ rfl (Nat.le_refl _)
    exact ⟨by unfold likR; rw [if_neg (by omega)], SameP.rf m⟩
  · skip
    refine j_iload_n rfl rfl ?_
    refine j_iconst rfl ?_
    refine j_icmp_ge (tgt := 14) rfl (by decide) (by omega) (by omega) (by omega) (by omega) (fun hb9_1 => ?_) (fun hb9_1 => ?_)
    · skip
      refine j_iconst rfl ?_
      refine j_istore_n rfl (by decide) ?_
      refine j_iconst rfl ?_
      refine j_istore rfl (by decide) ?_
      refine j_loc (ls' := [(0, vR 86), (1, vI k), (2, vI i), (3, vI 0), (4, vI 0)]) rfl ?_
      have hbx := h.1.i.s 86 1 0 6 (by decide)
      refine lp_like_19 (E := (lkO m k i (mi m 86 1).toNat 0 0)) h (by omega) (by omega) (by omega) (by omega) (fun M2 hs2 hq => ?_) (fun M2 hs2 hn0 hn1 hq => ?_) (mi m 86 1).toNat 0 0 m (by omega) (Int.le_refl 0) (Int.le_refl 0) (by omega) (SameP.rf m) rfl
      · exact ⟨by unfold likR; rw [if_pos (by omega), if_pos hq], hs2⟩
      · skip
        refine j_iload_n rfl rfl ?_
        refine j_if_ge (tgt := 95) rfl (by decide) (by omega) (by omega) (fun hb88_1 => ?_) (fun hb88_1 => ?_)
        · skip
          refine j_iconst rfl ?_
          refine j_iret rfl rfl ?_ rfl (Nat.le_refl _)
          exact ⟨by unfold likR; rw [if_pos (by omega), if_neg (by omega)]; first | (rw [if_pos (by omega)]; done) | (rw [if_neg (by omega)]; done), hs2⟩
        · skip
          refine j_iload_n rfl rfl ?_
          refine j_goto (tgt := 96) rfl (by decide) ?_
          refine j_iret rfl rfl ?_ rfl (Nat.le_refl _)
          exact ⟨by unfold likR; rw [if_pos (by omega), if_neg (by omega)]; first | (rw [if_pos (by omega)]; done) | (rw [if_neg (by omega)]; done), hs2⟩
    · skip
      refine j_iconst rfl ?_
      refine j_iret rfl rfl ?_ rfl (Nat.le_refl _)
      exact ⟨by unfold likR; rw [if_neg (by omega)], SameP.rf m⟩


theorem lneg_msb (x : Int64) : x.toInt < 0 ↔ x.toBitVec.msb = true := by
  show x.toBitVec.toInt < 0 ↔ _
  rw [BitVec.msb_eq_toInt, decide_eq_true_iff]
theorem lxor4 {a : Int} (h : -9223372036854775808 ≤ a) (h2 : a < 9223372036854775808) : z_lxor a 4 < 0 ↔ a < 0 := by
  unfold z_lxor
  rw [lneg_msb, Int64.toBitVec_xor, BitVec.msb_xor]
  have e : (zl 4).toBitVec.msb = false := by decide
  rw [e, Bool.xor_false, ← lneg_msb, zl_toInt h h2]
theorem floor4 {a : Int} : (if a < 0 then (if (a.tdiv 4) * 4 ≠ a then a.tdiv 4 - 1 else a.tdiv 4) else a.tdiv 4) = a / 4 := by
  have e := Int.tdiv_eq_ediv (a := a) (b := 4)
  rw [show Int.sign 4 = 1 from rfl] at e
  by_cases h : a < 0
  · rw [if_pos h]
    by_cases d : (4 : Int) ∣ a
    · rw [if_pos (Or.inr d)] at e
      obtain ⟨c, rfl⟩ := d
      rw [if_neg (by omega)]
      omega
    · rw [if_neg (by omega)] at e
      rw [if_pos (fun q => d ⟨a.tdiv 4, by omega⟩)]
      omega
  · rw [if_neg h]
    rw [if_pos (Or.inl (by omega))] at e
    omega

theorem zl_divW {a b : Int} (ha : -9223372036854775808 ≤ a) (ha2 : a < 9223372036854775808) (hb : -9223372036854775808 ≤ b) (hb2 : b < 9223372036854775808) : zl a / zl b = zl (a.tdiv b) := (Int64.ofInt_tdiv (show Int64.minValue.toInt ≤ a from by have h : Int64.minValue.toInt = -9223372036854775808 := rfl; omega) (show a ≤ Int64.maxValue.toInt from by have h : Int64.maxValue.toInt = 9223372036854775807 := rfl; omega) (show Int64.minValue.toInt ≤ b from by have h : Int64.minValue.toInt = -9223372036854775808 := rfl; omega) (show b ≤ Int64.maxValue.toInt from by have h : Int64.maxValue.toInt = 9223372036854775807 := rfl; omega)).symm
theorem j_ldivW {G : QW} {md : MD} {R : Room} {F : QFin} {pc : Nat} {ls : List (Nat × Vl)} {st : List Vl} {m : AM} {cc cs : Nat} {a b : Int} (hd : qlk md.c pc = some (.ldiv, 1)) (ha : -9223372036854775808 ≤ a) (ha2 : a < 9223372036854775808) (hb : -9223372036854775808 ≤ b) (hb2 : b < 9223372036854775808) (h0 : b ≠ 0) (k : qJ G md R F (pc + 1) (ls) (vL (a.tdiv b) :: st) (m) (cc) (cs)) : qJ G md R F (pc) (ls) (vL b :: vL a :: st) (m) (cc) (cs) := by
  intro p e s mm args below meth c C H locs lsc hH hz hS hl
  refine lv_ldiv C.x C.b (C.d.at hd) (zl_nz hb hb2 h0) ?_
  rw [zl_divW ha ha2 hb hb2]
  exact k p e s mm args below meth c C H locs lsc hH hz hS hl

theorem ct_J9_floorDiv4 {G : QW} {m : AM} {a : Int} (ha3 : -9223372036854775808 ≤ a) (ha4 : a < 9223372036854775808) : qM G mJ9_floorDiv_f86c9 0 0 0 [vL a, vL 4] m (fun r m' => r = some (vL (a / 4)) ∧ m' = m) := by
  refine qM.intro okJ9_floorDiv_f86c9 (Nat.le_of_ble_eq_true rfl) ?_
  have hx := lxor4 ha3 ha4
  have ht2 : -9223372036854775808 ≤ a.tdiv 4 * 4 ∧ a.tdiv 4 * 4 < 9223372036854775808 := by
    have h1 : (a.tdiv 4).natAbs = a.natAbs / 4 := Int.natAbs_tdiv ..
    have h2 : (a.tdiv 4 * 4).natAbs ≤ a.natAbs := by rw [Int.natAbs_mul, h1]; exact Nat.div_mul_le_self _ _
    have h3 : a.natAbs ≤ 9223372036854775808 := by omega
    by_cases q : 0 ≤ a
    · have h4 : 0 ≤ a.tdiv 4 := Int.tdiv_nonneg q (by decide)
      omega
    · have h4 : 0 ≤ (-a).tdiv 4 := Int.tdiv_nonneg (by omega) (by decide)
      rw [Int.neg_tdiv] at h4
      omega
  refine j_lload_n rfl rfl ?_
  refine j_lload_n rfl rfl ?_
  refine j_ldivW rfl (by omega) (by omega) (by omega) (by omega) (by omega) ?_
  refine j_lstore rfl (by decide) ?_
  refine j_lload_n rfl rfl ?_
  refine j_lload_n rfl rfl ?_
  refine j_lxor rfl ?_
  have z7_1 := z_lxor_rng a 4
  refine j_lconst (v := 0) rfl (by decide) ?_
  refine j_lc_ge (tgt := 27) rfl rfl (by decide) (by omega) (by omega) (by omega) (by omega) (fun hb9_1 => ?_) (fun hb9_1 => ?_)
  · skip
    refine j_lload rfl rfl ?_
    refine j_lret rfl rfl ?_ rfl (Nat.le_refl _)
    exact ⟨congrArg some (congrArg vL (by rw [← floor4 (a := a)]; first | (rw [if_neg (by omega)]; done) | (rw [if_pos (by omega), if_neg (by omega)]; done))), rfl⟩
  · skip
    refine j_lload rfl rfl ?_
    refine j_lload_n rfl rfl ?_
    refine j_lmul rfl ?_
    refine j_lload_n rfl rfl ?_
    refine j_lc_eq (tgt := 27) rfl rfl (by decide) (by omega) (by omega) (by omega) (by omega) (fun hb18_1 => ?_) (fun hb18_1 => ?_)
    · skip
      refine j_lload rfl rfl ?_
      refine j_lret rfl rfl ?_ rfl (Nat.le_refl _)
      exact ⟨congrArg some (congrArg vL (by rw [← floor4 (a := a)]; first | (rw [if_neg (by omega)]; done) | (rw [if_pos (by omega), if_neg (by omega)]; done))), rfl⟩
    · skip
      refine j_lload rfl rfl ?_
      refine j_lconst (v := 1) rfl (by decide) ?_
      refine j_lsub rfl ?_
      refine j_lret rfl rfl ?_ rfl (Nat.le_refl _)
      exact ⟨congrArg some (congrArg vL (by rw [← floor4 (a := a), if_pos (by omega), if_pos (by omega)])), rfl⟩

/-- what is felt of a real that may lack -/
def frV (N : AM) (s n : Int) : Int := if mi N 142 ((60 * s) + n).toNat ≠ 0 then 0 else ml N 141 ((60 * s) + n).toNat / 4
def frW (v : Int) : Int := if v < -99999 then -99999 else if v > 99999 then 99999 else v
/-- reals of a shelf from n on, taken over -/
def frLr (s k : Int) : Nat → Int → AM → AM
  | 0, _, N => N
  | x + 1, n, N => frLr s k x (n + 1) (si (si N 105 ((200 * k) + mi N 104 k.toNat).toNat (frW (frV N s n))) 104 k.toNat (mi N 104 k.toNat + 1))
def fkX (fk : Int) : Int := (3 * (fk / 10)) + (fk % 10)
/-- feltRow() of the reference -/
def felR (m : AM) (fk s i : Int) : Int × AM :=
  if (0 ≤ fk ∧ (0 ≤ fk / 10 ∧ fk / 10 < mi m 86 21) ∧ 0 ≤ fk % 10 ∧ fk % 10 ≤ 2) ∧ (s = -1 ∨ (0 ≤ s ∧ s ≤ 5)) then
    if s ≥ 0 ∧ mi m 139 s.toNat ≠ -1 ∧ ¬ (mi m 139 s.toNat = -5 ∨ mi m 139 s.toNat = -6) then (-12, m)
    else if s < 0 ∨ mi m 139 s.toNat = -1 ∨ i < 0 then (0, si m 104 (fkX fk).toNat (if s < 0 then -1 else 0))
    else (mi (frLr s (fkX fk) (mi m 140 s.toNat - i).toNat i (si m 104 (fkX fk).toNat 0)) 104 (fkX fk).toNat, frLr s (fkX fk) (mi m 140 s.toNat - i).toNat i (si m 104 (fkX fk).toNat 0))
  else (-1, m)

set_option maxRecDepth 20000 in
set_option maxHeartbeats 4000000 in
theorem lp_feltRow_99 {G : QW} {E : AM} {fk s i k z : Int} {Rp : Option Vl → AM → Prop} (hs0 : 0 ≤ s) (hs5 : s ≤ 5) (hk0 : 0 ≤ k) (hk9 : k ≤ 23) (hz9 : z ≤ 60) (hfin : Rp (some (vI (mi E 104 k.toNat))) E) : ∀ (x : Nat) (n : Int) (N : AM), St N → n + x = z ∨ (x = 0 ∧ n ≥ z) → 0 ≤ n ∧ n < 2147483648 → 0 ≤ mi N 104 k.toNat → mi N 104 k.toNat + x ≤ 60 → mi N 140 s.toNat = z → frLr s k x n N = E → qJ G mX12_feltRow { frames := 3, cells := 0, slots := 0, locals := 60 * 3 } (qF G Rp 0 0) 99 [(0, vR 86), (1, vI fk), (2, vI s), (3, vI i), (4, vI k), (5, vI n)] [] N 0 0 := by
  intro x
  induction x with
  | zero =>
    intro n N hS hx hn0 hr0 hr hz hE
    refine j_iload rfl rfl ?_
    refine j_aload_n rfl rfl ?_
    refine j_getR (q := 140) rfl f_X12_172 rfl (hS.lt (by decide)) (hS.k (by decide) (by decide)) (hS.r (by decide)) ?_
    refine j_iload_n rfl rfl ?_
    refine j_iald (n := 6) rfl (hS.lt (by decide)) (hS.k (by decide) (by decide)) (hS.n (by decide) (by decide)) (by omega) (by omega) (by decide) ?_
    have u106_1 := mi_rng N 140 s.toNat
    refine j_icmp_ge (tgt := 218) rfl (by decide) (by omega) (by omega) (by omega) (by omega) (fun hb107_1 => ?_) (fun hb107_1 => ?_)
    · skip
      refine j_aload_n rfl rfl ?_
      refine j_getR (q := 104) rfl f_X12_63 rfl (hS.lt (by decide)) (hS.k (by decide) (by decide)) (hS.r (by decide)) ?_
      refine j_iload rfl rfl ?_
      refine j_iald (n := 24) rfl (hS.lt (by decide)) (hS.k (by decide) (by decide)) (hS.n (by decide) (by decide)) (by omega) (by omega) (by decide) ?_
      have u224_1 := mi_rng N 104 k.toNat
      refine j_iret rfl rfl ?_ rfl (Nat.le_refl _)
      have hE : N = E := hE
      subst hE
      exact hfin
    · skip
      exfalso; omega
  | succ x ih =>
    intro n N hS hx hn0 hr0 hr hz hE
    simp only [frLr] at hE
    have hml := ml_rng N 141 ((60 * s) + n).toNat
    refine j_iload rfl rfl ?_
    refine j_aload_n rfl rfl ?_
    refine j_getR (q := 140) rfl f_X12_172 rfl (hS.lt (by decide)) (hS.k (by decide) (by decide)) (hS.r (by decide)) ?_
    refine j_iload_n rfl rfl ?_
    refine j_iald (n := 6) rfl (hS.lt (by decide)) (hS.k (by decide) (by decide)) (hS.n (by decide) (by decide)) (by omega) (by omega) (by decide) ?_
    have u106_1 := mi_rng N 140 s.toNat
    refine j_icmp_ge (tgt := 218) rfl (by decide) (by omega) (by omega) (by omega) (by omega) (fun hb107_1 => ?_) (fun hb107_1 => ?_)
    · skip
      exfalso; omega
    · skip
      refine j_aload_n rfl rfl ?_
      refine j_getR (q := 142) rfl f_X12_178 rfl (hS.lt (by decide)) (hS.k (by decide) (by decide)) (hS.r (by decide)) ?_
      refine j_bipush rfl (by decide) ?_
      refine j_iload_n rfl rfl ?_
      refine j_imul rfl ?_
      refine j_iload rfl rfl ?_
      refine j_iadd rfl ?_
      refine j_zald (n := 360) rfl (hS.lt (by decide)) (hS.k (by decide) (by decide)) (hS.n (by decide) (by decide)) (by omega) (by omega) (by decide) ?_
      have u121_1 := mi_rng N 142 ((60 * s) + n).toNat
      refine j_if_eq (tgt := 129) rfl (by decide) (by omega) (by omega) (fun hb122_1 => ?_) (fun hb122_1 => ?_)
      · skip
        have hbl := hb122_1
        refine j_aload_n rfl rfl ?_
        refine j_getR (q := 141) rfl f_X12_175 rfl (hS.lt (by decide)) (hS.k (by decide) (by decide)) (hS.r (by decide)) ?_
        refine j_bipush rfl (by decide) ?_
        refine j_iload_n rfl rfl ?_
        refine j_imul rfl ?_
        refine j_iload rfl rfl ?_
        refine j_iadd rfl ?_
        refine j_lald (n := 360) rfl (hS.lt (by decide)) (hS.k (by decide) (by decide)) (hS.n (by decide) (by decide)) (by omega) (by omega) (by decide) ?_
        have u140_1 := ml_rng N 141 ((60 * s) + n).toNat
        refine j_ldc2 (v := 4) rfl k_X12_284 ?_
        refine j_callS (As := [_, _]) rfl okJ9_floorDiv_f86c9 c_X12_286 (ct_J9_floorDiv4 (by omega) (by omega)) rfl rfl (Nat.le_of_ble_eq_true rfl) (by decide) (by decide) ?_
        rintro vq mq ⟨e1, e2⟩
        rw [e1, e2]
        clear e1 e2
        simp only [Option.toList_some, Option.toList_none, List.cons_append, List.nil_append]
        refine j_lstore rfl (by decide) ?_
        refine j_aload_n rfl rfl ?_
        refine j_getR (q := 105) rfl f_X12_66 rfl (hS.lt (by decide)) (hS.k (by decide) (by decide)) (hS.r (by decide)) ?_
        refine j_sipush rfl (by decide) ?_
        refine j_iload rfl rfl ?_
        refine j_imul rfl ?_
        refine j_aload_n rfl rfl ?_
        refine j_getR (q := 104) rfl f_X12_63 rfl (hS.lt (by decide)) (hS.k (by decide) (by decide)) (hS.r (by decide)) ?_
        refine j_iload rfl rfl ?_
        refine j_iald (n := 24) rfl (hS.lt (by decide)) (hS.k (by decide) (by decide)) (hS.n (by decide) (by decide)) (by omega) (by omega) (by decide) ?_
        have u165_1 := mi_rng N 104 k.toNat
        refine j_iadd rfl ?_
        refine j_lload rfl rfl ?_
        refine j_ldc2 (v := -99999) rfl k_X12_292 ?_
        refine j_lc_ge (tgt := 182) rfl rfl (by decide) (by omega) (by omega) (by omega) (by omega) (fun hb172_1 => ?_) (fun hb172_1 => ?_)
        · skip
          refine j_lload rfl rfl ?_
          refine j_ldc2 (v := 99999) rfl k_X12_294 ?_
          refine j_lc_le (tgt := 197) rfl rfl (by decide) (by omega) (by omega) (by omega) (by omega) (fun hb187_1 => ?_) (fun hb187_1 => ?_)
          · skip
            refine j_lload rfl rfl ?_
            refine j_l2iW rfl ?_
            have z199_1 := z_l2i_rng ((ml N 141 ((60 * s) + n).toNat) / 4)
            refine j_iast (n := 4800) rfl (hS.lt (by decide)) (hS.k (by decide) (by decide)) (hS.n (by decide) (by decide)) (by omega) (by omega) (by first | decide | omega) ?_
            have e104 : mi (si N 105 ((200 * k) + (mi N 104 k.toNat)).toNat (z_l2i ((ml N 141 ((60 * s) + n).toNat) / 4))) 104 k.toNat = mi N 104 k.toNat := mi_si_ne _ _ (fun q => absurd q.1 (by decide))
            refine j_aload_n rfl rfl ?_
            refine j_getR (q := 104) rfl f_X12_63 rfl (hS.lt (by decide)) (hS.k (by decide) (by decide)) (hS.r (by decide)) ?_
            refine j_iload rfl rfl ?_
            refine j_dup2 rfl (Nat.ne_of_beq_eq_false rfl) (Nat.ne_of_beq_eq_false rfl) ?_
            refine j_iald (n := 24) rfl (hS.lt (by decide)) (hS.k (by decide) (by decide)) (hS.n (by decide) (by decide)) (by omega) (by omega) (by decide) ?_
            rw [show mi (si N 105 ((200 * k) + (mi N 104 k.toNat)).toNat (z_l2i ((ml N 141 ((60 * s) + n).toNat) / 4))) 104 k.toNat = mi N 104 k.toNat from by simp [mi_si, mi_fil, mi_cpr, mi_sl, mi_sr, ml_sl, ml_si, ml_sr, ml_fil, ml_cpr]]
            have u208_1 := mi_rng N 104 k.toNat
            refine j_iconst rfl ?_
            refine j_iadd rfl ?_
            refine j_iast (n := 24) rfl (hS.lt (by decide)) (hS.k (by decide) (by decide)) (hS.n (by decide) (by decide)) (by omega) (by omega) (by first | decide | omega) ?_
            refine j_iinc rfl rfl (by decide) ?_
            refine j_goto (tgt := 99) rfl (by decide) ?_
            refine j_loc (ls' := [(0, vR 86), (1, vI fk), (2, vI s), (3, vI i), (4, vI k), (5, vI (n + 1))]) rfl ?_
            have hfv : frV N s n = (ml N 141 ((60 * s) + n).toNat) / 4 := by unfold frV; first | exact if_pos hbl | exact if_neg (fun q => q hbl)
            have hw : (z_l2i ((ml N 141 ((60 * s) + n).toNat) / 4)) = frW (frV N s n) := by rw [hfv]; unfold frW; first | (exfalso; omega) | (rw [if_pos (by omega)]; done) | (rw [if_neg (by omega), if_pos (by omega)]; done) | (rw [if_neg (by omega), if_neg (by omega)]; exact z_l2i_of (by omega) (by omega))
            have hv : (si (si N 105 ((200 * k) + (mi N 104 k.toNat)).toNat (z_l2i ((ml N 141 ((60 * s) + n).toNat) / 4))) 104 k.toNat ((mi N 104 k.toNat) + 1)) = si (si N 105 ((200 * k) + mi N 104 k.toNat).toNat (frW (frV N s n))) 104 k.toNat (mi N 104 k.toNat + 1) := congrArg (fun z => si (si N 105 ((200 * k) + mi N 104 k.toNat).toNat z) 104 k.toNat (mi N 104 k.toNat + 1)) hw
            rw [hv]
            have et : mi (si (si N 105 ((200 * k) + mi N 104 k.toNat).toNat (frW (frV N s n))) 104 k.toNat (mi N 104 k.toNat + 1)) 104 k.toNat = mi N 104 k.toNat + 1 := mi_si_same _ _ _ (by omega) (by omega)
            refine ih (n + 1) _ hS (by omega) (by omega) (by omega) (by omega) ?_ hE
            exact (mi_si_ne _ _ (fun q => absurd q.1 (by decide))).trans ((mi_si_ne _ _ (fun q => absurd q.1 (by decide))).trans hz)
          · skip
            refine j_ldcw (v := 99999) rfl k_X12_273 ?_
            refine j_goto (tgt := 200) rfl (by decide) ?_
            refine j_iast (n := 4800) rfl (hS.lt (by decide)) (hS.k (by decide) (by decide)) (hS.n (by decide) (by decide)) (by omega) (by omega) (by first | decide | omega) ?_
            have e104 : mi (si N 105 ((200 * k) + (mi N 104 k.toNat)).toNat 99999) 104 k.toNat = mi N 104 k.toNat := mi_si_ne _ _ (fun q => absurd q.1 (by decide))
            refine j_aload_n rfl rfl ?_
            refine j_getR (q := 104) rfl f_X12_63 rfl (hS.lt (by decide)) (hS.k (by decide) (by decide)) (hS.r (by decide)) ?_
            refine j_iload rfl rfl ?_
            refine j_dup2 rfl (Nat.ne_of_beq_eq_false rfl) (Nat.ne_of_beq_eq_false rfl) ?_
            refine j_iald (n := 24) rfl (hS.lt (by decide)) (hS.k (by decide) (by decide)) (hS.n (by decide) (by decide)) (by omega) (by omega) (by decide) ?_
            rw [show mi (si N 105 ((200 * k) + (mi N 104 k.toNat)).toNat 99999) 104 k.toNat = mi N 104 k.toNat from by simp [mi_si, mi_fil, mi_cpr, mi_sl, mi_sr, ml_sl, ml_si, ml_sr, ml_fil, ml_cpr]]
            have u208_2 := mi_rng N 104 k.toNat
            refine j_iconst rfl ?_
            refine j_iadd rfl ?_
            refine j_iast (n := 24) rfl (hS.lt (by decide)) (hS.k (by decide) (by decide)) (hS.n (by decide) (by decide)) (by omega) (by omega) (by first | decide | omega) ?_
            refine j_iinc rfl rfl (by decide) ?_
            refine j_goto (tgt := 99) rfl (by decide) ?_
            refine j_loc (ls' := [(0, vR 86), (1, vI fk), (2, vI s), (3, vI i), (4, vI k), (5, vI (n + 1))]) rfl ?_
            have hfv : frV N s n = (ml N 141 ((60 * s) + n).toNat) / 4 := by unfold frV; first | exact if_pos hbl | exact if_neg (fun q => q hbl)
            have hw : 99999 = frW (frV N s n) := by rw [hfv]; unfold frW; first | (exfalso; omega) | (rw [if_pos (by omega)]; done) | (rw [if_neg (by omega), if_pos (by omega)]; done) | (rw [if_neg (by omega), if_neg (by omega)]; exact z_l2i_of (by omega) (by omega))
            have hv : (si (si N 105 ((200 * k) + (mi N 104 k.toNat)).toNat 99999) 104 k.toNat ((mi N 104 k.toNat) + 1)) = si (si N 105 ((200 * k) + mi N 104 k.toNat).toNat (frW (frV N s n))) 104 k.toNat (mi N 104 k.toNat + 1) := congrArg (fun z => si (si N 105 ((200 * k) + mi N 104 k.toNat).toNat z) 104 k.toNat (mi N 104 k.toNat + 1)) hw
            rw [hv]
            have et : mi (si (si N 105 ((200 * k) + mi N 104 k.toNat).toNat (frW (frV N s n))) 104 k.toNat (mi N 104 k.toNat + 1)) 104 k.toNat = mi N 104 k.toNat + 1 := mi_si_same _ _ _ (by omega) (by omega)
            refine ih (n + 1) _ hS (by omega) (by omega) (by omega) (by omega) ?_ hE
            exact (mi_si_ne _ _ (fun q => absurd q.1 (by decide))).trans ((mi_si_ne _ _ (fun q => absurd q.1 (by decide))).trans hz)
        · skip
          refine j_ldcw (v := -99999) rfl k_X12_277 ?_
          refine j_goto (tgt := 200) rfl (by decide) ?_
          refine j_iast (n := 4800) rfl (hS.lt (by decide)) (hS.k (by decide) (by decide)) (hS.n (by decide) (by decide)) (by omega) (by omega) (by first | decide | omega) ?_
          have e104 : mi (si N 105 ((200 * k) + (mi N 104 k.toNat)).toNat (-99999)) 104 k.toNat = mi N 104 k.toNat := mi_si_ne _ _ (fun q => absurd q.1 (by decide))
          refine j_aload_n rfl rfl ?_
          refine j_getR (q := 104) rfl f_X12_63 rfl (hS.lt (by decide)) (hS.k (by decide) (by decide)) (hS.r (by decide)) ?_
          refine j_iload rfl rfl ?_
          refine j_dup2 rfl (Nat.ne_of_beq_eq_false rfl) (Nat.ne_of_beq_eq_false rfl) ?_
          refine j_iald (n := 24) rfl (hS.lt (by decide)) (hS.k (by decide) (by decide)) (hS.n (by decide) (by decide)) (by omega) (by omega) (by decide) ?_
          rw [show mi (si N 105 ((200 * k) + (mi N 104 k.toNat)).toNat (-99999)) 104 k.toNat = mi N 104 k.toNat from by simp [mi_si, mi_fil, mi_cpr, mi_sl, mi_sr, ml_sl, ml_si, ml_sr, ml_fil, ml_cpr]]
          have u208_3 := mi_rng N 104 k.toNat
          refine j_iconst rfl ?_
          refine j_iadd rfl ?_
          refine j_iast (n := 24) rfl (hS.lt (by decide)) (hS.k (by decide) (by decide)) (hS.n (by decide) (by decide)) (by omega) (by omega) (by first | decide | omega) ?_
          refine j_iinc rfl rfl (by decide) ?_
          refine j_goto (tgt := 99) rfl (by decide) ?_
          refine j_loc (ls' := [(0, vR 86), (1, vI fk), (2, vI s), (3, vI i), (4, vI k), (5, vI (n + 1))]) rfl ?_
          have hfv : frV N s n = (ml N 141 ((60 * s) + n).toNat) / 4 := by unfold frV; first | exact if_pos hbl | exact if_neg (fun q => q hbl)
          have hw : (-99999) = frW (frV N s n) := by rw [hfv]; unfold frW; first | (exfalso; omega) | (rw [if_pos (by omega)]; done) | (rw [if_neg (by omega), if_pos (by omega)]; done) | (rw [if_neg (by omega), if_neg (by omega)]; exact z_l2i_of (by omega) (by omega))
          have hv : (si (si N 105 ((200 * k) + (mi N 104 k.toNat)).toNat (-99999)) 104 k.toNat ((mi N 104 k.toNat) + 1)) = si (si N 105 ((200 * k) + mi N 104 k.toNat).toNat (frW (frV N s n))) 104 k.toNat (mi N 104 k.toNat + 1) := congrArg (fun z => si (si N 105 ((200 * k) + mi N 104 k.toNat).toNat z) 104 k.toNat (mi N 104 k.toNat + 1)) hw
          rw [hv]
          have et : mi (si (si N 105 ((200 * k) + mi N 104 k.toNat).toNat (frW (frV N s n))) 104 k.toNat (mi N 104 k.toNat + 1)) 104 k.toNat = mi N 104 k.toNat + 1 := mi_si_same _ _ _ (by omega) (by omega)
          refine ih (n + 1) _ hS (by omega) (by omega) (by omega) (by omega) ?_ hE
          exact (mi_si_ne _ _ (fun q => absurd q.1 (by decide))).trans ((mi_si_ne _ _ (fun q => absurd q.1 (by decide))).trans hz)
      · skip
        have hbl := hb122_1
        refine j_lconst (v := 0) rfl (by decide) ?_
        refine j_goto (tgt := 147) rfl (by decide) ?_
        refine j_lstore rfl (by decide) ?_
        refine j_aload_n rfl rfl ?_
        refine j_getR (q := 105) rfl f_X12_66 rfl (hS.lt (by decide)) (hS.k (by decide) (by decide)) (hS.r (by decide)) ?_
        refine j_sipush rfl (by decide) ?_
        refine j_iload rfl rfl ?_
        refine j_imul rfl ?_
        refine j_aload_n rfl rfl ?_
        refine j_getR (q := 104) rfl f_X12_63 rfl (hS.lt (by decide)) (hS.k (by decide) (by decide)) (hS.r (by decide)) ?_
        refine j_iload rfl rfl ?_
        refine j_iald (n := 24) rfl (hS.lt (by decide)) (hS.k (by decide) (by decide)) (hS.n (by decide) (by decide)) (by omega) (by omega) (by decide) ?_
        have u165_2 := mi_rng N 104 k.toNat
        refine j_iadd rfl ?_
        refine j_lload rfl rfl ?_
        refine j_ldc2 (v := -99999) rfl k_X12_292 ?_
        refine j_lc_ge (tgt := 182) rfl rfl (by decide) (by omega) (by omega) (by omega) (by omega) (fun hb172_2 => ?_) (fun hb172_2 => ?_)
        · skip
          refine j_lload rfl rfl ?_
          refine j_ldc2 (v := 99999) rfl k_X12_294 ?_
          refine j_lc_le (tgt := 197) rfl rfl (by decide) (by omega) (by omega) (by omega) (by omega) (fun hb187_2 => ?_) (fun hb187_2 => ?_)
          · skip
            refine j_lload rfl rfl ?_
            refine j_l2iW rfl ?_
            have z199_2 := z_l2i_rng 0
            refine j_iast (n := 4800) rfl (hS.lt (by decide)) (hS.k (by decide) (by decide)) (hS.n (by decide) (by decide)) (by omega) (by omega) (by first | decide | omega) ?_
            have e104 : mi (si N 105 ((200 * k) + (mi N 104 k.toNat)).toNat (z_l2i 0)) 104 k.toNat = mi N 104 k.toNat := mi_si_ne _ _ (fun q => absurd q.1 (by decide))
            refine j_aload_n rfl rfl ?_
            refine j_getR (q := 104) rfl f_X12_63 rfl (hS.lt (by decide)) (hS.k (by decide) (by decide)) (hS.r (by decide)) ?_
            refine j_iload rfl rfl ?_
            refine j_dup2 rfl (Nat.ne_of_beq_eq_false rfl) (Nat.ne_of_beq_eq_false rfl) ?_
            refine j_iald (n := 24) rfl (hS.lt (by decide)) (hS.k (by decide) (by decide)) (hS.n (by decide) (by decide)) (by omega) (by omega) (by decide) ?_
            rw [show mi (si N 105 ((200 * k) + (mi N 104 k.toNat)).toNat (z_l2i 0)) 104 k.toNat = mi N 104 k.toNat from by simp [mi_si, mi_fil, mi_cpr, mi_sl, mi_sr, ml_sl, ml_si, ml_sr, ml_fil, ml_cpr]]
            have u208_4 := mi_rng N 104 k.toNat
            refine j_iconst rfl ?_
            refine j_iadd rfl ?_
            refine j_iast (n := 24) rfl (hS.lt (by decide)) (hS.k (by decide) (by decide)) (hS.n (by decide) (by decide)) (by omega) (by omega) (by first | decide | omega) ?_
            refine j_iinc rfl rfl (by decide) ?_
            refine j_goto (tgt := 99) rfl (by decide) ?_
            refine j_loc (ls' := [(0, vR 86), (1, vI fk), (2, vI s), (3, vI i), (4, vI k), (5, vI (n + 1))]) rfl ?_
            have hfv : frV N s n = 0 := by unfold frV; first | exact if_pos hbl | exact if_neg (fun q => q hbl)
            have hw : (z_l2i 0) = frW (frV N s n) := by rw [hfv]; unfold frW; first | (exfalso; omega) | (rw [if_pos (by omega)]; done) | (rw [if_neg (by omega), if_pos (by omega)]; done) | (rw [if_neg (by omega), if_neg (by omega)]; exact z_l2i_of (by omega) (by omega))
            have hv : (si (si N 105 ((200 * k) + (mi N 104 k.toNat)).toNat (z_l2i 0)) 104 k.toNat ((mi N 104 k.toNat) + 1)) = si (si N 105 ((200 * k) + mi N 104 k.toNat).toNat (frW (frV N s n))) 104 k.toNat (mi N 104 k.toNat + 1) := congrArg (fun z => si (si N 105 ((200 * k) + mi N 104 k.toNat).toNat z) 104 k.toNat (mi N 104 k.toNat + 1)) hw
            rw [hv]
            have et : mi (si (si N 105 ((200 * k) + mi N 104 k.toNat).toNat (frW (frV N s n))) 104 k.toNat (mi N 104 k.toNat + 1)) 104 k.toNat = mi N 104 k.toNat + 1 := mi_si_same _ _ _ (by omega) (by omega)
            refine ih (n + 1) _ hS (by omega) (by omega) (by omega) (by omega) ?_ hE
            exact (mi_si_ne _ _ (fun q => absurd q.1 (by decide))).trans ((mi_si_ne _ _ (fun q => absurd q.1 (by decide))).trans hz)
          · skip
            refine j_ldcw (v := 99999) rfl k_X12_273 ?_
            refine j_goto (tgt := 200) rfl (by decide) ?_
            refine j_iast (n := 4800) rfl (hS.lt (by decide)) (hS.k (by decide) (by decide)) (hS.n (by decide) (by decide)) (by omega) (by omega) (by first | decide | omega) ?_
            have e104 : mi (si N 105 ((200 * k) + (mi N 104 k.toNat)).toNat 99999) 104 k.toNat = mi N 104 k.toNat := mi_si_ne _ _ (fun q => absurd q.1 (by decide))
            refine j_aload_n rfl rfl ?_
            refine j_getR (q := 104) rfl f_X12_63 rfl (hS.lt (by decide)) (hS.k (by decide) (by decide)) (hS.r (by decide)) ?_
            refine j_iload rfl rfl ?_
            refine j_dup2 rfl (Nat.ne_of_beq_eq_false rfl) (Nat.ne_of_beq_eq_false rfl) ?_
            refine j_iald (n := 24) rfl (hS.lt (by decide)) (hS.k (by decide) (by decide)) (hS.n (by decide) (by decide)) (by omega) (by omega) (by decide) ?_
            rw [show mi (si N 105 ((200 * k) + (mi N 104 k.toNat)).toNat 99999) 104 k.toNat = mi N 104 k.toNat from by simp [mi_si, mi_fil, mi_cpr, mi_sl, mi_sr, ml_sl, ml_si, ml_sr, ml_fil, ml_cpr]]
            have u208_5 := mi_rng N 104 k.toNat
            refine j_iconst rfl ?_
            refine j_iadd rfl ?_
            refine j_iast (n := 24) rfl (hS.lt (by decide)) (hS.k (by decide) (by decide)) (hS.n (by decide) (by decide)) (by omega) (by omega) (by first | decide | omega) ?_
            refine j_iinc rfl rfl (by decide) ?_
            refine j_goto (tgt := 99) rfl (by decide) ?_
            refine j_loc (ls' := [(0, vR 86), (1, vI fk), (2, vI s), (3, vI i), (4, vI k), (5, vI (n + 1))]) rfl ?_
            have hfv : frV N s n = 0 := by unfold frV; first | exact if_pos hbl | exact if_neg (fun q => q hbl)
            have hw : 99999 = frW (frV N s n) := by rw [hfv]; unfold frW; first | (exfalso; omega) | (rw [if_pos (by omega)]; done) | (rw [if_neg (by omega), if_pos (by omega)]; done) | (rw [if_neg (by omega), if_neg (by omega)]; exact z_l2i_of (by omega) (by omega))
            have hv : (si (si N 105 ((200 * k) + (mi N 104 k.toNat)).toNat 99999) 104 k.toNat ((mi N 104 k.toNat) + 1)) = si (si N 105 ((200 * k) + mi N 104 k.toNat).toNat (frW (frV N s n))) 104 k.toNat (mi N 104 k.toNat + 1) := congrArg (fun z => si (si N 105 ((200 * k) + mi N 104 k.toNat).toNat z) 104 k.toNat (mi N 104 k.toNat + 1)) hw
            rw [hv]
            have et : mi (si (si N 105 ((200 * k) + mi N 104 k.toNat).toNat (frW (frV N s n))) 104 k.toNat (mi N 104 k.toNat + 1)) 104 k.toNat = mi N 104 k.toNat + 1 := mi_si_same _ _ _ (by omega) (by omega)
            refine ih (n + 1) _ hS (by omega) (by omega) (by omega) (by omega) ?_ hE
            exact (mi_si_ne _ _ (fun q => absurd q.1 (by decide))).trans ((mi_si_ne _ _ (fun q => absurd q.1 (by decide))).trans hz)
        · skip
          refine j_ldcw (v := -99999) rfl k_X12_277 ?_
          refine j_goto (tgt := 200) rfl (by decide) ?_
          refine j_iast (n := 4800) rfl (hS.lt (by decide)) (hS.k (by decide) (by decide)) (hS.n (by decide) (by decide)) (by omega) (by omega) (by first | decide | omega) ?_
          have e104 : mi (si N 105 ((200 * k) + (mi N 104 k.toNat)).toNat (-99999)) 104 k.toNat = mi N 104 k.toNat := mi_si_ne _ _ (fun q => absurd q.1 (by decide))
          refine j_aload_n rfl rfl ?_
          refine j_getR (q := 104) rfl f_X12_63 rfl (hS.lt (by decide)) (hS.k (by decide) (by decide)) (hS.r (by decide)) ?_
          refine j_iload rfl rfl ?_
          refine j_dup2 rfl (Nat.ne_of_beq_eq_false rfl) (Nat.ne_of_beq_eq_false rfl) ?_
          refine j_iald (n := 24) rfl (hS.lt (by decide)) (hS.k (by decide) (by decide)) (hS.n (by decide) (by decide)) (by omega) (by omega) (by decide) ?_
          rw [show mi (si N 105 ((200 * k) + (mi N 104 k.toNat)).toNat (-99999)) 104 k.toNat = mi N 104 k.toNat from by simp [mi_si, mi_fil, mi_cpr, mi_sl, mi_sr, ml_sl, ml_si, ml_sr, ml_fil, ml_cpr]]
          have u208_6 := mi_rng N 104 k.toNat
          refine j_iconst rfl ?_
          refine j_iadd rfl ?_
          refine j_iast (n := 24) rfl (hS.lt (by decide)) (hS.k (by decide) (by decide)) (hS.n (by decide) (by decide)) (by omega) (by omega) (by first | decide | omega) ?_
          refine j_iinc rfl rfl (by decide) ?_
          refine j_goto (tgt := 99) rfl (by decide) ?_
          refine j_loc (ls' := [(0, vR 86), (1, vI fk), (2, vI s), (3, vI i), (4, vI k), (5, vI (n + 1))]) rfl ?_
          have hfv : frV N s n = 0 := by unfold frV; first | exact if_pos hbl | exact if_neg (fun q => q hbl)
          have hw : (-99999) = frW (frV N s n) := by rw [hfv]; unfold frW; first | (exfalso; omega) | (rw [if_pos (by omega)]; done) | (rw [if_neg (by omega), if_pos (by omega)]; done) | (rw [if_neg (by omega), if_neg (by omega)]; exact z_l2i_of (by omega) (by omega))
          have hv : (si (si N 105 ((200 * k) + (mi N 104 k.toNat)).toNat (-99999)) 104 k.toNat ((mi N 104 k.toNat) + 1)) = si (si N 105 ((200 * k) + mi N 104 k.toNat).toNat (frW (frV N s n))) 104 k.toNat (mi N 104 k.toNat + 1) := congrArg (fun z => si (si N 105 ((200 * k) + mi N 104 k.toNat).toNat z) 104 k.toNat (mi N 104 k.toNat + 1)) hw
          rw [hv]
          have et : mi (si (si N 105 ((200 * k) + mi N 104 k.toNat).toNat (frW (frV N s n))) 104 k.toNat (mi N 104 k.toNat + 1)) 104 k.toNat = mi N 104 k.toNat + 1 := mi_si_same _ _ _ (by omega) (by omega)
          refine ih (n + 1) _ hS (by omega) (by omega) (by omega) (by omega) ?_ hE
          exact (mi_si_ne _ _ (fun q => absurd q.1 (by decide))).trans ((mi_si_ne _ _ (fun q => absurd q.1 (by decide))).trans hz)

set_option maxRecDepth 20000 in
set_option maxHeartbeats 4000000 in
theorem ct_X12_feltRow {G : QW} {m : AM} {fk s i : Int} (hS : St m) (hI : IM m) (hfk1 : -2147483648 ≤ fk) (hfk2 : fk < 2147483648) (hs1 : -2147483648 ≤ s) (hs2 : s < 2147483648) (hi1 : -2147483648 ≤ i) (hi2 : i < 2147483648) : qM G mX12_feltRow 3 0 0 [vR 86, vI fk, vI s, vI i] m (fun r m' => r = some (vI (felR m fk s i).1) ∧ m' = (felR m fk s i).2) := by
  refine qM.intro okX12_feltRow (Nat.le_of_ble_eq_true rfl) ?_
  have hz1 := hI.a 140 0 60 (by decide) s.toNat
  have hfl := hI.s 86 21 0 8 (by decide)
  refine j_aload_n rfl rfl ?_
  refine j_iload_n rfl rfl ?_
  refine j_callV (ci := 12) rfl okX12_isFelt c_X12_274 (ct_X12_isFelt hS hI (by omega) (by omega)) rfl rfl (hS.lt (by decide)) (hS.k (by decide) (by decide)) (by decide) rfl (Nat.le_of_ble_eq_true rfl) (by decide) (by decide) ?_
  rintro vq mq ⟨e1, e2⟩
  rw [e1, e2]
  clear e1 e2
  simp only [Option.toList_some, Option.toList_none, List.cons_append, List.nil_append]
  have w1 := hI.s 86 21 (0) 8 (by decide)
  refine j_bif_eq (tgt := 20) rfl (by decide) (fun hb5_1 => ?_) (fun hb5_1 => ?_)
  · skip
    refine j_iconst rfl ?_
    refine j_iret rfl rfl ?_ rfl (Nat.le_refl _)
    exact ⟨by unfold felR; rw [if_neg (by omega)], by unfold felR; rw [if_neg (by omega)]⟩
  · skip
    refine j_iload_n rfl rfl ?_
    refine j_iconst rfl ?_
    refine j_icmp_eq (tgt := 22) rfl (by decide) (by omega) (by omega) (by omega) (by omega) (fun hb10_1 => ?_) (fun hb10_1 => ?_)
    · skip
      refine j_iconst rfl ?_
      refine j_iload_n rfl rfl ?_
      refine j_bipush rfl (by decide) ?_
      refine j_idivN rfl (by omega) (by omega) (by omega) (by omega) ?_
      refine j_imul rfl ?_
      refine j_iload_n rfl rfl ?_
      refine j_bipush rfl (by decide) ?_
      refine j_iremN rfl (by omega) (by omega) (by omega) (by omega) ?_
      refine j_iadd rfl ?_
      refine j_istore rfl (by decide) ?_
      refine j_iload_n rfl rfl ?_
      refine j_if_lt (tgt := 60) rfl (by decide) (by omega) (by omega) (fun hb36_1 => ?_) (fun hb36_1 => ?_)
      · skip
        refine j_aload_n rfl rfl ?_
        refine j_getR (q := 104) rfl f_X12_63 rfl (hS.lt (by decide)) (hS.k (by decide) (by decide)) (hS.r (by decide)) ?_
        refine j_iload rfl rfl ?_
        refine j_iload_n rfl rfl ?_
        refine j_if_ge (tgt := 74) rfl (by decide) (by omega) (by omega) (fun hb67_1 => ?_) (fun hb67_1 => ?_)
        · skip
          refine j_iconst rfl ?_
          refine j_iast (n := 24) rfl (hS.lt (by decide)) (hS.k (by decide) (by decide)) (hS.n (by decide) (by decide)) (by omega) (by omega) (by first | decide | omega) ?_
          refine j_iload_n rfl rfl ?_
          refine j_if_lt (tgt := 94) rfl (by decide) (by omega) (by omega) (fun hb77_1 => ?_) (fun hb77_1 => ?_)
          · skip
            refine j_iconst rfl ?_
            refine j_iret rfl rfl ?_ rfl (Nat.le_refl _)
            first
              | (exfalso; omega)
              | (refine ⟨by unfold felR; rw [if_pos (by omega), if_neg (by omega), if_pos (by omega)], ?_⟩; unfold felR; rw [if_pos (by omega), if_neg (by omega), if_pos (by omega)]; first | (rw [if_pos (by omega)]; rfl) | (rw [if_neg (by omega)]; rfl))
          · skip
            refine j_aload_n rfl rfl ?_
            refine j_getR (q := 139) rfl f_X12_169 rfl (hS.lt (by decide)) (hS.k (by decide) (by decide)) (hS.r (by decide)) ?_
            refine j_iload_n rfl rfl ?_
            refine j_iald (n := 6) rfl (hS.lt (by decide)) (hS.k (by decide) (by decide)) (hS.n (by decide) (by decide)) (by omega) (by omega) (by decide) ?_
            rw [show mi (si m 104 ((3 * (fk / 10)) + (fk % 10)).toNat 0) 139 s.toNat = mi m 139 s.toNat from by simp [mi_si, mi_fil, mi_cpr, mi_sl, mi_sr, ml_sl, ml_si, ml_sr, ml_fil, ml_cpr]]
            have u85_1 := hI.a 139 (-6) 5 (by decide) s.toNat
            refine j_iconst rfl ?_
            refine j_icmp_eq (tgt := 94) rfl (by decide) (by omega) (by omega) (by omega) (by omega) (fun hb87_1 => ?_) (fun hb87_1 => ?_)
            · skip
              refine j_iconst rfl ?_
              refine j_iret rfl rfl ?_ rfl (Nat.le_refl _)
              first
                | (exfalso; omega)
                | (refine ⟨by unfold felR; rw [if_pos (by omega), if_neg (by omega), if_pos (by omega)], ?_⟩; unfold felR; rw [if_pos (by omega), if_neg (by omega), if_pos (by omega)]; first | (rw [if_pos (by omega)]; rfl) | (rw [if_neg (by omega)]; rfl))
            · skip
              refine j_iload_n rfl rfl ?_
              refine j_if_ge (tgt := 96) rfl (by decide) (by omega) (by omega) (fun hb91_1 => ?_) (fun hb91_1 => ?_)
              · skip
                refine j_iload_n rfl rfl ?_
                refine j_istore rfl (by decide) ?_
                have hk : (3 * (fk / 10)) + (fk % 10) = fkX fk := rfl
                rw [hk]
                refine j_loc (ls' := [(0, vR 86), (1, vI fk), (2, vI s), (3, vI i), (4, vI (fkX fk)), (5, vI i)]) rfl ?_
                have et : mi (si m 104 (fkX fk).toNat 0) 104 (fkX fk).toNat = 0 := mi_si_same _ _ _ (by decide) (by decide)
                have hkr : 0 ≤ fkX fk ∧ fkX fk ≤ 23 := by unfold fkX; omega
                exact lp_feltRow_99 (E := frLr s (fkX fk) (mi m 140 s.toNat - i).toNat i (si m 104 (fkX fk).toNat 0)) (z := mi m 140 s.toNat) (by omega) (by omega) hkr.1 hkr.2 (by omega) ⟨by unfold felR; rw [if_pos (by omega), if_neg (by omega), if_neg (by omega)], by unfold felR; rw [if_pos (by omega), if_neg (by omega), if_neg (by omega)]⟩ (mi m 140 s.toNat - i).toNat i _ hS (by omega) (by omega) (by omega) (by omega) (mi_si_ne _ _ (fun q => absurd q.1 (by decide))) rfl
              · skip
                refine j_iconst rfl ?_
                refine j_iret rfl rfl ?_ rfl (Nat.le_refl _)
                first
                  | (exfalso; omega)
                  | (refine ⟨by unfold felR; rw [if_pos (by omega), if_neg (by omega), if_pos (by omega)], ?_⟩; unfold felR; rw [if_pos (by omega), if_neg (by omega), if_pos (by omega)]; first | (rw [if_pos (by omega)]; rfl) | (rw [if_neg (by omega)]; rfl))
        · skip
          refine j_iconst rfl ?_
          refine j_goto (tgt := 75) rfl (by decide) ?_
          refine j_iast (n := 24) rfl (hS.lt (by decide)) (hS.k (by decide) (by decide)) (hS.n (by decide) (by decide)) (by omega) (by omega) (by first | decide | omega) ?_
          refine j_iload_n rfl rfl ?_
          refine j_if_lt (tgt := 94) rfl (by decide) (by omega) (by omega) (fun hb77_2 => ?_) (fun hb77_2 => ?_)
          · skip
            refine j_iconst rfl ?_
            refine j_iret rfl rfl ?_ rfl (Nat.le_refl _)
            first
              | (exfalso; omega)
              | (refine ⟨by unfold felR; rw [if_pos (by omega), if_neg (by omega), if_pos (by omega)], ?_⟩; unfold felR; rw [if_pos (by omega), if_neg (by omega), if_pos (by omega)]; first | (rw [if_pos (by omega)]; rfl) | (rw [if_neg (by omega)]; rfl))
          · skip
            refine j_aload_n rfl rfl ?_
            refine j_getR (q := 139) rfl f_X12_169 rfl (hS.lt (by decide)) (hS.k (by decide) (by decide)) (hS.r (by decide)) ?_
            refine j_iload_n rfl rfl ?_
            refine j_iald (n := 6) rfl (hS.lt (by decide)) (hS.k (by decide) (by decide)) (hS.n (by decide) (by decide)) (by omega) (by omega) (by decide) ?_
            rw [show mi (si m 104 ((3 * (fk / 10)) + (fk % 10)).toNat (-1)) 139 s.toNat = mi m 139 s.toNat from by simp [mi_si, mi_fil, mi_cpr, mi_sl, mi_sr, ml_sl, ml_si, ml_sr, ml_fil, ml_cpr]]
            have u85_2 := hI.a 139 (-6) 5 (by decide) s.toNat
            refine j_iconst rfl ?_
            refine j_icmp_eq (tgt := 94) rfl (by decide) (by omega) (by omega) (by omega) (by omega) (fun hb87_2 => ?_) (fun hb87_2 => ?_)
            · skip
              refine j_iconst rfl ?_
              refine j_iret rfl rfl ?_ rfl (Nat.le_refl _)
              first
                | (exfalso; omega)
                | (refine ⟨by unfold felR; rw [if_pos (by omega), if_neg (by omega), if_pos (by omega)], ?_⟩; unfold felR; rw [if_pos (by omega), if_neg (by omega), if_pos (by omega)]; first | (rw [if_pos (by omega)]; rfl) | (rw [if_neg (by omega)]; rfl))
            · skip
              refine j_iload_n rfl rfl ?_
              refine j_if_ge (tgt := 96) rfl (by decide) (by omega) (by omega) (fun hb91_2 => ?_) (fun hb91_2 => ?_)
              · skip
                refine j_iload_n rfl rfl ?_
                refine j_istore rfl (by decide) ?_
                exfalso; omega
              · skip
                refine j_iconst rfl ?_
                refine j_iret rfl rfl ?_ rfl (Nat.le_refl _)
                first
                  | (exfalso; omega)
                  | (refine ⟨by unfold felR; rw [if_pos (by omega), if_neg (by omega), if_pos (by omega)], ?_⟩; unfold felR; rw [if_pos (by omega), if_neg (by omega), if_pos (by omega)]; first | (rw [if_pos (by omega)]; rfl) | (rw [if_neg (by omega)]; rfl))
      · skip
        refine j_aload_n rfl rfl ?_
        refine j_getR (q := 139) rfl f_X12_169 rfl (hS.lt (by decide)) (hS.k (by decide) (by decide)) (hS.r (by decide)) ?_
        refine j_iload_n rfl rfl ?_
        refine j_iald (n := 6) rfl (hS.lt (by decide)) (hS.k (by decide) (by decide)) (hS.n (by decide) (by decide)) (by omega) (by omega) (by decide) ?_
        have u44_1 := hI.a 139 (-6) 5 (by decide) s.toNat
        refine j_iconst rfl ?_
        refine j_icmp_eq (tgt := 60) rfl (by decide) (by omega) (by omega) (by omega) (by omega) (fun hb46_1 => ?_) (fun hb46_1 => ?_)
        · skip
          refine j_aload_n rfl rfl ?_
          refine j_getR (q := 104) rfl f_X12_63 rfl (hS.lt (by decide)) (hS.k (by decide) (by decide)) (hS.r (by decide)) ?_
          refine j_iload rfl rfl ?_
          refine j_iload_n rfl rfl ?_
          refine j_if_ge (tgt := 74) rfl (by decide) (by omega) (by omega) (fun hb67_2 => ?_) (fun hb67_2 => ?_)
          · skip
            refine j_iconst rfl ?_
            refine j_iast (n := 24) rfl (hS.lt (by decide)) (hS.k (by decide) (by decide)) (hS.n (by decide) (by decide)) (by omega) (by omega) (by first | decide | omega) ?_
            refine j_iload_n rfl rfl ?_
            refine j_if_lt (tgt := 94) rfl (by decide) (by omega) (by omega) (fun hb77_3 => ?_) (fun hb77_3 => ?_)
            · skip
              refine j_iconst rfl ?_
              refine j_iret rfl rfl ?_ rfl (Nat.le_refl _)
              first
                | (exfalso; omega)
                | (refine ⟨by unfold felR; rw [if_pos (by omega), if_neg (by omega), if_pos (by omega)], ?_⟩; unfold felR; rw [if_pos (by omega), if_neg (by omega), if_pos (by omega)]; first | (rw [if_pos (by omega)]; rfl) | (rw [if_neg (by omega)]; rfl))
            · skip
              refine j_aload_n rfl rfl ?_
              refine j_getR (q := 139) rfl f_X12_169 rfl (hS.lt (by decide)) (hS.k (by decide) (by decide)) (hS.r (by decide)) ?_
              refine j_iload_n rfl rfl ?_
              refine j_iald (n := 6) rfl (hS.lt (by decide)) (hS.k (by decide) (by decide)) (hS.n (by decide) (by decide)) (by omega) (by omega) (by decide) ?_
              rw [show mi (si m 104 ((3 * (fk / 10)) + (fk % 10)).toNat 0) 139 s.toNat = mi m 139 s.toNat from by simp [mi_si, mi_fil, mi_cpr, mi_sl, mi_sr, ml_sl, ml_si, ml_sr, ml_fil, ml_cpr]]
              have u85_3 := hI.a 139 (-6) 5 (by decide) s.toNat
              refine j_iconst rfl ?_
              refine j_icmp_eq (tgt := 94) rfl (by decide) (by omega) (by omega) (by omega) (by omega) (fun hb87_3 => ?_) (fun hb87_3 => ?_)
              · skip
                refine j_iconst rfl ?_
                refine j_iret rfl rfl ?_ rfl (Nat.le_refl _)
                first
                  | (exfalso; omega)
                  | (refine ⟨by unfold felR; rw [if_pos (by omega), if_neg (by omega), if_pos (by omega)], ?_⟩; unfold felR; rw [if_pos (by omega), if_neg (by omega), if_pos (by omega)]; first | (rw [if_pos (by omega)]; rfl) | (rw [if_neg (by omega)]; rfl))
              · skip
                refine j_iload_n rfl rfl ?_
                refine j_if_ge (tgt := 96) rfl (by decide) (by omega) (by omega) (fun hb91_3 => ?_) (fun hb91_3 => ?_)
                · skip
                  refine j_iload_n rfl rfl ?_
                  refine j_istore rfl (by decide) ?_
                  have hk : (3 * (fk / 10)) + (fk % 10) = fkX fk := rfl
                  rw [hk]
                  refine j_loc (ls' := [(0, vR 86), (1, vI fk), (2, vI s), (3, vI i), (4, vI (fkX fk)), (5, vI i)]) rfl ?_
                  have et : mi (si m 104 (fkX fk).toNat 0) 104 (fkX fk).toNat = 0 := mi_si_same _ _ _ (by decide) (by decide)
                  have hkr : 0 ≤ fkX fk ∧ fkX fk ≤ 23 := by unfold fkX; omega
                  exact lp_feltRow_99 (E := frLr s (fkX fk) (mi m 140 s.toNat - i).toNat i (si m 104 (fkX fk).toNat 0)) (z := mi m 140 s.toNat) (by omega) (by omega) hkr.1 hkr.2 (by omega) ⟨by unfold felR; rw [if_pos (by omega), if_neg (by omega), if_neg (by omega)], by unfold felR; rw [if_pos (by omega), if_neg (by omega), if_neg (by omega)]⟩ (mi m 140 s.toNat - i).toNat i _ hS (by omega) (by omega) (by omega) (by omega) (mi_si_ne _ _ (fun q => absurd q.1 (by decide))) rfl
                · skip
                  refine j_iconst rfl ?_
                  refine j_iret rfl rfl ?_ rfl (Nat.le_refl _)
                  first
                    | (exfalso; omega)
                    | (refine ⟨by unfold felR; rw [if_pos (by omega), if_neg (by omega), if_pos (by omega)], ?_⟩; unfold felR; rw [if_pos (by omega), if_neg (by omega), if_pos (by omega)]; first | (rw [if_pos (by omega)]; rfl) | (rw [if_neg (by omega)]; rfl))
          · skip
            refine j_iconst rfl ?_
            refine j_goto (tgt := 75) rfl (by decide) ?_
            refine j_iast (n := 24) rfl (hS.lt (by decide)) (hS.k (by decide) (by decide)) (hS.n (by decide) (by decide)) (by omega) (by omega) (by first | decide | omega) ?_
            refine j_iload_n rfl rfl ?_
            refine j_if_lt (tgt := 94) rfl (by decide) (by omega) (by omega) (fun hb77_4 => ?_) (fun hb77_4 => ?_)
            · skip
              refine j_iconst rfl ?_
              refine j_iret rfl rfl ?_ rfl (Nat.le_refl _)
              first
                | (exfalso; omega)
                | (refine ⟨by unfold felR; rw [if_pos (by omega), if_neg (by omega), if_pos (by omega)], ?_⟩; unfold felR; rw [if_pos (by omega), if_neg (by omega), if_pos (by omega)]; first | (rw [if_pos (by omega)]; rfl) | (rw [if_neg (by omega)]; rfl))
            · skip
              refine j_aload_n rfl rfl ?_
              refine j_getR (q := 139) rfl f_X12_169 rfl (hS.lt (by decide)) (hS.k (by decide) (by decide)) (hS.r (by decide)) ?_
              refine j_iload_n rfl rfl ?_
              refine j_iald (n := 6) rfl (hS.lt (by decide)) (hS.k (by decide) (by decide)) (hS.n (by decide) (by decide)) (by omega) (by omega) (by decide) ?_
              rw [show mi (si m 104 ((3 * (fk / 10)) + (fk % 10)).toNat (-1)) 139 s.toNat = mi m 139 s.toNat from by simp [mi_si, mi_fil, mi_cpr, mi_sl, mi_sr, ml_sl, ml_si, ml_sr, ml_fil, ml_cpr]]
              have u85_4 := hI.a 139 (-6) 5 (by decide) s.toNat
              refine j_iconst rfl ?_
              refine j_icmp_eq (tgt := 94) rfl (by decide) (by omega) (by omega) (by omega) (by omega) (fun hb87_4 => ?_) (fun hb87_4 => ?_)
              · skip
                refine j_iconst rfl ?_
                refine j_iret rfl rfl ?_ rfl (Nat.le_refl _)
                first
                  | (exfalso; omega)
                  | (refine ⟨by unfold felR; rw [if_pos (by omega), if_neg (by omega), if_pos (by omega)], ?_⟩; unfold felR; rw [if_pos (by omega), if_neg (by omega), if_pos (by omega)]; first | (rw [if_pos (by omega)]; rfl) | (rw [if_neg (by omega)]; rfl))
              · skip
                refine j_iload_n rfl rfl ?_
                refine j_if_ge (tgt := 96) rfl (by decide) (by omega) (by omega) (fun hb91_4 => ?_) (fun hb91_4 => ?_)
                · skip
                  refine j_iload_n rfl rfl ?_
                  refine j_istore rfl (by decide) ?_
                  exfalso; omega
                · skip
                  refine j_iconst rfl ?_
                  refine j_iret rfl rfl ?_ rfl (Nat.le_refl _)
                  first
                    | (exfalso; omega)
                    | (refine ⟨by unfold felR; rw [if_pos (by omega), if_neg (by omega), if_pos (by omega)], ?_⟩; unfold felR; rw [if_pos (by omega), if_neg (by omega), if_pos (by omega)]; first | (rw [if_pos (by omega)]; rfl) | (rw [if_neg (by omega)]; rfl))
        · skip
          refine j_aload_n rfl rfl ?_
          refine j_iload_n rfl rfl ?_
          refine j_callV (ci := 12) rfl okX12_isReals c_X12_281 (ct_X12_isReals hS hI (by omega) (by omega) (by omega) (by omega)) rfl rfl (hS.lt (by decide)) (hS.k (by decide) (by decide)) (by decide) rfl (Nat.le_of_ble_eq_true rfl) (by decide) (by decide) ?_
          rintro vq mq ⟨e1, e2⟩
          rw [e1, e2]
          clear e1 e2
          simp only [Option.toList_some, Option.toList_none, List.cons_append, List.nil_append]
          have w2 := hI.a 139 (-6) 5 (by decide) s.toNat
          refine j_bif_ne (tgt := 60) rfl (by decide) (fun hb54_1 => ?_) (fun hb54_1 => ?_)
          · skip
            refine j_aload_n rfl rfl ?_
            refine j_getR (q := 104) rfl f_X12_63 rfl (hS.lt (by decide)) (hS.k (by decide) (by decide)) (hS.r (by decide)) ?_
            refine j_iload rfl rfl ?_
            refine j_iload_n rfl rfl ?_
            refine j_if_ge (tgt := 74) rfl (by decide) (by omega) (by omega) (fun hb67_3 => ?_) (fun hb67_3 => ?_)
            · skip
              refine j_iconst rfl ?_
              refine j_iast (n := 24) rfl (hS.lt (by decide)) (hS.k (by decide) (by decide)) (hS.n (by decide) (by decide)) (by omega) (by omega) (by first | decide | omega) ?_
              refine j_iload_n rfl rfl ?_
              refine j_if_lt (tgt := 94) rfl (by decide) (by omega) (by omega) (fun hb77_5 => ?_) (fun hb77_5 => ?_)
              · skip
                refine j_iconst rfl ?_
                refine j_iret rfl rfl ?_ rfl (Nat.le_refl _)
                first
                  | (exfalso; omega)
                  | (refine ⟨by unfold felR; rw [if_pos (by omega), if_neg (by omega), if_pos (by omega)], ?_⟩; unfold felR; rw [if_pos (by omega), if_neg (by omega), if_pos (by omega)]; first | (rw [if_pos (by omega)]; rfl) | (rw [if_neg (by omega)]; rfl))
              · skip
                refine j_aload_n rfl rfl ?_
                refine j_getR (q := 139) rfl f_X12_169 rfl (hS.lt (by decide)) (hS.k (by decide) (by decide)) (hS.r (by decide)) ?_
                refine j_iload_n rfl rfl ?_
                refine j_iald (n := 6) rfl (hS.lt (by decide)) (hS.k (by decide) (by decide)) (hS.n (by decide) (by decide)) (by omega) (by omega) (by decide) ?_
                rw [show mi (si m 104 ((3 * (fk / 10)) + (fk % 10)).toNat 0) 139 s.toNat = mi m 139 s.toNat from by simp [mi_si, mi_fil, mi_cpr, mi_sl, mi_sr, ml_sl, ml_si, ml_sr, ml_fil, ml_cpr]]
                have u85_5 := hI.a 139 (-6) 5 (by decide) s.toNat
                refine j_iconst rfl ?_
                refine j_icmp_eq (tgt := 94) rfl (by decide) (by omega) (by omega) (by omega) (by omega) (fun hb87_5 => ?_) (fun hb87_5 => ?_)
                · skip
                  refine j_iconst rfl ?_
                  refine j_iret rfl rfl ?_ rfl (Nat.le_refl _)
                  first
                    | (exfalso; omega)
                    | (refine ⟨by unfold felR; rw [if_pos (by omega), if_neg (by omega), if_pos (by omega)], ?_⟩; unfold felR; rw [if_pos (by omega), if_neg (by omega), if_pos (by omega)]; first | (rw [if_pos (by omega)]; rfl) | (rw [if_neg (by omega)]; rfl))
                · skip
                  refine j_iload_n rfl rfl ?_
                  refine j_if_ge (tgt := 96) rfl (by decide) (by omega) (by omega) (fun hb91_5 => ?_) (fun hb91_5 => ?_)
                  · skip
                    refine j_iload_n rfl rfl ?_
                    refine j_istore rfl (by decide) ?_
                    have hk : (3 * (fk / 10)) + (fk % 10) = fkX fk := rfl
                    rw [hk]
                    refine j_loc (ls' := [(0, vR 86), (1, vI fk), (2, vI s), (3, vI i), (4, vI (fkX fk)), (5, vI i)]) rfl ?_
                    have et : mi (si m 104 (fkX fk).toNat 0) 104 (fkX fk).toNat = 0 := mi_si_same _ _ _ (by decide) (by decide)
                    have hkr : 0 ≤ fkX fk ∧ fkX fk ≤ 23 := by unfold fkX; omega
                    exact lp_feltRow_99 (E := frLr s (fkX fk) (mi m 140 s.toNat - i).toNat i (si m 104 (fkX fk).toNat 0)) (z := mi m 140 s.toNat) (by omega) (by omega) hkr.1 hkr.2 (by omega) ⟨by unfold felR; rw [if_pos (by omega), if_neg (by omega), if_neg (by omega)], by unfold felR; rw [if_pos (by omega), if_neg (by omega), if_neg (by omega)]⟩ (mi m 140 s.toNat - i).toNat i _ hS (by omega) (by omega) (by omega) (by omega) (mi_si_ne _ _ (fun q => absurd q.1 (by decide))) rfl
                  · skip
                    refine j_iconst rfl ?_
                    refine j_iret rfl rfl ?_ rfl (Nat.le_refl _)
                    first
                      | (exfalso; omega)
                      | (refine ⟨by unfold felR; rw [if_pos (by omega), if_neg (by omega), if_pos (by omega)], ?_⟩; unfold felR; rw [if_pos (by omega), if_neg (by omega), if_pos (by omega)]; first | (rw [if_pos (by omega)]; rfl) | (rw [if_neg (by omega)]; rfl))
            · skip
              refine j_iconst rfl ?_
              refine j_goto (tgt := 75) rfl (by decide) ?_
              refine j_iast (n := 24) rfl (hS.lt (by decide)) (hS.k (by decide) (by decide)) (hS.n (by decide) (by decide)) (by omega) (by omega) (by first | decide | omega) ?_
              refine j_iload_n rfl rfl ?_
              refine j_if_lt (tgt := 94) rfl (by decide) (by omega) (by omega) (fun hb77_6 => ?_) (fun hb77_6 => ?_)
              · skip
                refine j_iconst rfl ?_
                refine j_iret rfl rfl ?_ rfl (Nat.le_refl _)
                first
                  | (exfalso; omega)
                  | (refine ⟨by unfold felR; rw [if_pos (by omega), if_neg (by omega), if_pos (by omega)], ?_⟩; unfold felR; rw [if_pos (by omega), if_neg (by omega), if_pos (by omega)]; first | (rw [if_pos (by omega)]; rfl) | (rw [if_neg (by omega)]; rfl))
              · skip
                refine j_aload_n rfl rfl ?_
                refine j_getR (q := 139) rfl f_X12_169 rfl (hS.lt (by decide)) (hS.k (by decide) (by decide)) (hS.r (by decide)) ?_
                refine j_iload_n rfl rfl ?_
                refine j_iald (n := 6) rfl (hS.lt (by decide)) (hS.k (by decide) (by decide)) (hS.n (by decide) (by decide)) (by omega) (by omega) (by decide) ?_
                rw [show mi (si m 104 ((3 * (fk / 10)) + (fk % 10)).toNat (-1)) 139 s.toNat = mi m 139 s.toNat from by simp [mi_si, mi_fil, mi_cpr, mi_sl, mi_sr, ml_sl, ml_si, ml_sr, ml_fil, ml_cpr]]
                have u85_6 := hI.a 139 (-6) 5 (by decide) s.toNat
                refine j_iconst rfl ?_
                refine j_icmp_eq (tgt := 94) rfl (by decide) (by omega) (by omega) (by omega) (by omega) (fun hb87_6 => ?_) (fun hb87_6 => ?_)
                · skip
                  refine j_iconst rfl ?_
                  refine j_iret rfl rfl ?_ rfl (Nat.le_refl _)
                  first
                    | (exfalso; omega)
                    | (refine ⟨by unfold felR; rw [if_pos (by omega), if_neg (by omega), if_pos (by omega)], ?_⟩; unfold felR; rw [if_pos (by omega), if_neg (by omega), if_pos (by omega)]; first | (rw [if_pos (by omega)]; rfl) | (rw [if_neg (by omega)]; rfl))
                · skip
                  refine j_iload_n rfl rfl ?_
                  refine j_if_ge (tgt := 96) rfl (by decide) (by omega) (by omega) (fun hb91_6 => ?_) (fun hb91_6 => ?_)
                  · skip
                    refine j_iload_n rfl rfl ?_
                    refine j_istore rfl (by decide) ?_
                    exfalso; omega
                  · skip
                    refine j_iconst rfl ?_
                    refine j_iret rfl rfl ?_ rfl (Nat.le_refl _)
                    first
                      | (exfalso; omega)
                      | (refine ⟨by unfold felR; rw [if_pos (by omega), if_neg (by omega), if_pos (by omega)], ?_⟩; unfold felR; rw [if_pos (by omega), if_neg (by omega), if_pos (by omega)]; first | (rw [if_pos (by omega)]; rfl) | (rw [if_neg (by omega)]; rfl))
          · skip
            refine j_bipush rfl (by decide) ?_
            refine j_iret rfl rfl ?_ rfl (Nat.le_refl _)
            exact ⟨by unfold felR; rw [if_pos (by omega), if_pos (by omega)], by unfold felR; rw [if_pos (by omega), if_pos (by omega)]⟩
    · skip
      refine j_iload_n rfl rfl ?_
      refine j_callS (As := [_]) rfl okX12_isShelf c_X12_278 (ct_X12_isShelf (by omega) (by omega)) rfl rfl (Nat.le_of_ble_eq_true rfl) (by decide) (by decide) ?_
      rintro vq mq ⟨e1, e2⟩
      rw [e1, e2]
      clear e1 e2
      simp only [Option.toList_some, Option.toList_none, List.cons_append, List.nil_append]
      refine j_bif_ne (tgt := 22) rfl (by decide) (fun hb17_1 => ?_) (fun hb17_1 => ?_)
      · skip
        refine j_iconst rfl ?_
        refine j_iload_n rfl rfl ?_
        refine j_bipush rfl (by decide) ?_
        refine j_idivN rfl (by omega) (by omega) (by omega) (by omega) ?_
        refine j_imul rfl ?_
        refine j_iload_n rfl rfl ?_
        refine j_bipush rfl (by decide) ?_
        refine j_iremN rfl (by omega) (by omega) (by omega) (by omega) ?_
        refine j_iadd rfl ?_
        refine j_istore rfl (by decide) ?_
        refine j_iload_n rfl rfl ?_
        refine j_if_lt (tgt := 60) rfl (by decide) (by omega) (by omega) (fun hb36_2 => ?_) (fun hb36_2 => ?_)
        · skip
          refine j_aload_n rfl rfl ?_
          refine j_getR (q := 104) rfl f_X12_63 rfl (hS.lt (by decide)) (hS.k (by decide) (by decide)) (hS.r (by decide)) ?_
          refine j_iload rfl rfl ?_
          refine j_iload_n rfl rfl ?_
          refine j_if_ge (tgt := 74) rfl (by decide) (by omega) (by omega) (fun hb67_4 => ?_) (fun hb67_4 => ?_)
          · skip
            refine j_iconst rfl ?_
            refine j_iast (n := 24) rfl (hS.lt (by decide)) (hS.k (by decide) (by decide)) (hS.n (by decide) (by decide)) (by omega) (by omega) (by first | decide | omega) ?_
            refine j_iload_n rfl rfl ?_
            refine j_if_lt (tgt := 94) rfl (by decide) (by omega) (by omega) (fun hb77_7 => ?_) (fun hb77_7 => ?_)
            · skip
              refine j_iconst rfl ?_
              refine j_iret rfl rfl ?_ rfl (Nat.le_refl _)
              first
                | (exfalso; omega)
                | (refine ⟨by unfold felR; rw [if_pos (by omega), if_neg (by omega), if_pos (by omega)], ?_⟩; unfold felR; rw [if_pos (by omega), if_neg (by omega), if_pos (by omega)]; first | (rw [if_pos (by omega)]; rfl) | (rw [if_neg (by omega)]; rfl))
            · skip
              refine j_aload_n rfl rfl ?_
              refine j_getR (q := 139) rfl f_X12_169 rfl (hS.lt (by decide)) (hS.k (by decide) (by decide)) (hS.r (by decide)) ?_
              refine j_iload_n rfl rfl ?_
              refine j_iald (n := 6) rfl (hS.lt (by decide)) (hS.k (by decide) (by decide)) (hS.n (by decide) (by decide)) (by omega) (by omega) (by decide) ?_
              rw [show mi (si m 104 ((3 * (fk / 10)) + (fk % 10)).toNat 0) 139 s.toNat = mi m 139 s.toNat from by simp [mi_si, mi_fil, mi_cpr, mi_sl, mi_sr, ml_sl, ml_si, ml_sr, ml_fil, ml_cpr]]
              have u85_7 := hI.a 139 (-6) 5 (by decide) s.toNat
              refine j_iconst rfl ?_
              refine j_icmp_eq (tgt := 94) rfl (by decide) (by omega) (by omega) (by omega) (by omega) (fun hb87_7 => ?_) (fun hb87_7 => ?_)
              · skip
                refine j_iconst rfl ?_
                refine j_iret rfl rfl ?_ rfl (Nat.le_refl _)
                first
                  | (exfalso; omega)
                  | (refine ⟨by unfold felR; rw [if_pos (by omega), if_neg (by omega), if_pos (by omega)], ?_⟩; unfold felR; rw [if_pos (by omega), if_neg (by omega), if_pos (by omega)]; first | (rw [if_pos (by omega)]; rfl) | (rw [if_neg (by omega)]; rfl))
              · skip
                refine j_iload_n rfl rfl ?_
                refine j_if_ge (tgt := 96) rfl (by decide) (by omega) (by omega) (fun hb91_7 => ?_) (fun hb91_7 => ?_)
                · skip
                  refine j_iload_n rfl rfl ?_
                  refine j_istore rfl (by decide) ?_
                  have hk : (3 * (fk / 10)) + (fk % 10) = fkX fk := rfl
                  rw [hk]
                  refine j_loc (ls' := [(0, vR 86), (1, vI fk), (2, vI s), (3, vI i), (4, vI (fkX fk)), (5, vI i)]) rfl ?_
                  have et : mi (si m 104 (fkX fk).toNat 0) 104 (fkX fk).toNat = 0 := mi_si_same _ _ _ (by decide) (by decide)
                  have hkr : 0 ≤ fkX fk ∧ fkX fk ≤ 23 := by unfold fkX; omega
                  exact lp_feltRow_99 (E := frLr s (fkX fk) (mi m 140 s.toNat - i).toNat i (si m 104 (fkX fk).toNat 0)) (z := mi m 140 s.toNat) (by omega) (by omega) hkr.1 hkr.2 (by omega) ⟨by unfold felR; rw [if_pos (by omega), if_neg (by omega), if_neg (by omega)], by unfold felR; rw [if_pos (by omega), if_neg (by omega), if_neg (by omega)]⟩ (mi m 140 s.toNat - i).toNat i _ hS (by omega) (by omega) (by omega) (by omega) (mi_si_ne _ _ (fun q => absurd q.1 (by decide))) rfl
                · skip
                  refine j_iconst rfl ?_
                  refine j_iret rfl rfl ?_ rfl (Nat.le_refl _)
                  first
                    | (exfalso; omega)
                    | (refine ⟨by unfold felR; rw [if_pos (by omega), if_neg (by omega), if_pos (by omega)], ?_⟩; unfold felR; rw [if_pos (by omega), if_neg (by omega), if_pos (by omega)]; first | (rw [if_pos (by omega)]; rfl) | (rw [if_neg (by omega)]; rfl))
          · skip
            refine j_iconst rfl ?_
            refine j_goto (tgt := 75) rfl (by decide) ?_
            refine j_iast (n := 24) rfl (hS.lt (by decide)) (hS.k (by decide) (by decide)) (hS.n (by decide) (by decide)) (by omega) (by omega) (by first | decide | omega) ?_
            refine j_iload_n rfl rfl ?_
            refine j_if_lt (tgt := 94) rfl (by decide) (by omega) (by omega) (fun hb77_8 => ?_) (fun hb77_8 => ?_)
            · skip
              refine j_iconst rfl ?_
              refine j_iret rfl rfl ?_ rfl (Nat.le_refl _)
              first
                | (exfalso; omega)
                | (refine ⟨by unfold felR; rw [if_pos (by omega), if_neg (by omega), if_pos (by omega)], ?_⟩; unfold felR; rw [if_pos (by omega), if_neg (by omega), if_pos (by omega)]; first | (rw [if_pos (by omega)]; rfl) | (rw [if_neg (by omega)]; rfl))
            · skip
              refine j_aload_n rfl rfl ?_
              refine j_getR (q := 139) rfl f_X12_169 rfl (hS.lt (by decide)) (hS.k (by decide) (by decide)) (hS.r (by decide)) ?_
              refine j_iload_n rfl rfl ?_
              refine j_iald (n := 6) rfl (hS.lt (by decide)) (hS.k (by decide) (by decide)) (hS.n (by decide) (by decide)) (by omega) (by omega) (by decide) ?_
              rw [show mi (si m 104 ((3 * (fk / 10)) + (fk % 10)).toNat (-1)) 139 s.toNat = mi m 139 s.toNat from by simp [mi_si, mi_fil, mi_cpr, mi_sl, mi_sr, ml_sl, ml_si, ml_sr, ml_fil, ml_cpr]]
              have u85_8 := hI.a 139 (-6) 5 (by decide) s.toNat
              refine j_iconst rfl ?_
              refine j_icmp_eq (tgt := 94) rfl (by decide) (by omega) (by omega) (by omega) (by omega) (fun hb87_8 => ?_) (fun hb87_8 => ?_)
              · skip
                refine j_iconst rfl ?_
                refine j_iret rfl rfl ?_ rfl (Nat.le_refl _)
                first
                  | (exfalso; omega)
                  | (refine ⟨by unfold felR; rw [if_pos (by omega), if_neg (by omega), if_pos (by omega)], ?_⟩; unfold felR; rw [if_pos (by omega), if_neg (by omega), if_pos (by omega)]; first | (rw [if_pos (by omega)]; rfl) | (rw [if_neg (by omega)]; rfl))
              · skip
                refine j_iload_n rfl rfl ?_
                refine j_if_ge (tgt := 96) rfl (by decide) (by omega) (by omega) (fun hb91_8 => ?_) (fun hb91_8 => ?_)
                · skip
                  refine j_iload_n rfl rfl ?_
                  refine j_istore rfl (by decide) ?_
                  exfalso; omega
                · skip
                  refine j_iconst rfl ?_
                  refine j_iret rfl rfl ?_ rfl (Nat.le_refl _)
                  first
                    | (exfalso; omega)
                    | (refine ⟨by unfold felR; rw [if_pos (by omega), if_neg (by omega), if_pos (by omega)], ?_⟩; unfold felR; rw [if_pos (by omega), if_neg (by omega), if_pos (by omega)]; first | (rw [if_pos (by omega)]; rfl) | (rw [if_neg (by omega)]; rfl))
        · skip
          refine j_aload_n rfl rfl ?_
          refine j_getR (q := 139) rfl f_X12_169 rfl (hS.lt (by decide)) (hS.k (by decide) (by decide)) (hS.r (by decide)) ?_
          refine j_iload_n rfl rfl ?_
          refine j_iald (n := 6) rfl (hS.lt (by decide)) (hS.k (by decide) (by decide)) (hS.n (by decide) (by decide)) (by omega) (by omega) (by decide) ?_
          have u44_2 := hI.a 139 (-6) 5 (by decide) s.toNat
          refine j_iconst rfl ?_
          refine j_icmp_eq (tgt := 60) rfl (by decide) (by omega) (by omega) (by omega) (by omega) (fun hb46_2 => ?_) (fun hb46_2 => ?_)
          · skip
            refine j_aload_n rfl rfl ?_
            refine j_getR (q := 104) rfl f_X12_63 rfl (hS.lt (by decide)) (hS.k (by decide) (by decide)) (hS.r (by decide)) ?_
            refine j_iload rfl rfl ?_
            refine j_iload_n rfl rfl ?_
            refine j_if_ge (tgt := 74) rfl (by decide) (by omega) (by omega) (fun hb67_5 => ?_) (fun hb67_5 => ?_)
            · skip
              refine j_iconst rfl ?_
              refine j_iast (n := 24) rfl (hS.lt (by decide)) (hS.k (by decide) (by decide)) (hS.n (by decide) (by decide)) (by omega) (by omega) (by first | decide | omega) ?_
              refine j_iload_n rfl rfl ?_
              refine j_if_lt (tgt := 94) rfl (by decide) (by omega) (by omega) (fun hb77_9 => ?_) (fun hb77_9 => ?_)
              · skip
                refine j_iconst rfl ?_
                refine j_iret rfl rfl ?_ rfl (Nat.le_refl _)
                first
                  | (exfalso; omega)
                  | (refine ⟨by unfold felR; rw [if_pos (by omega), if_neg (by omega), if_pos (by omega)], ?_⟩; unfold felR; rw [if_pos (by omega), if_neg (by omega), if_pos (by omega)]; first | (rw [if_pos (by omega)]; rfl) | (rw [if_neg (by omega)]; rfl))
              · skip
                refine j_aload_n rfl rfl ?_
                refine j_getR (q := 139) rfl f_X12_169 rfl (hS.lt (by decide)) (hS.k (by decide) (by decide)) (hS.r (by decide)) ?_
                refine j_iload_n rfl rfl ?_
                refine j_iald (n := 6) rfl (hS.lt (by decide)) (hS.k (by decide) (by decide)) (hS.n (by decide) (by decide)) (by omega) (by omega) (by decide) ?_
                rw [show mi (si m 104 ((3 * (fk / 10)) + (fk % 10)).toNat 0) 139 s.toNat = mi m 139 s.toNat from by simp [mi_si, mi_fil, mi_cpr, mi_sl, mi_sr, ml_sl, ml_si, ml_sr, ml_fil, ml_cpr]]
                have u85_9 := hI.a 139 (-6) 5 (by decide) s.toNat
                refine j_iconst rfl ?_
                refine j_icmp_eq (tgt := 94) rfl (by decide) (by omega) (by omega) (by omega) (by omega) (fun hb87_9 => ?_) (fun hb87_9 => ?_)
                · skip
                  refine j_iconst rfl ?_
                  refine j_iret rfl rfl ?_ rfl (Nat.le_refl _)
                  first
                    | (exfalso; omega)
                    | (refine ⟨by unfold felR; rw [if_pos (by omega), if_neg (by omega), if_pos (by omega)], ?_⟩; unfold felR; rw [if_pos (by omega), if_neg (by omega), if_pos (by omega)]; first | (rw [if_pos (by omega)]; rfl) | (rw [if_neg (by omega)]; rfl))
                · skip
                  refine j_iload_n rfl rfl ?_
                  refine j_if_ge (tgt := 96) rfl (by decide) (by omega) (by omega) (fun hb91_9 => ?_) (fun hb91_9 => ?_)
                  · skip
                    refine j_iload_n rfl rfl ?_
                    refine j_istore rfl (by decide) ?_
                    have hk : (3 * (fk / 10)) + (fk % 10) = fkX fk := rfl
                    rw [hk]
                    refine j_loc (ls' := [(0, vR 86), (1, vI fk), (2, vI s), (3, vI i), (4, vI (fkX fk)), (5, vI i)]) rfl ?_
                    have et : mi (si m 104 (fkX fk).toNat 0) 104 (fkX fk).toNat = 0 := mi_si_same _ _ _ (by decide) (by decide)
                    have hkr : 0 ≤ fkX fk ∧ fkX fk ≤ 23 := by unfold fkX; omega
                    exact lp_feltRow_99 (E := frLr s (fkX fk) (mi m 140 s.toNat - i).toNat i (si m 104 (fkX fk).toNat 0)) (z := mi m 140 s.toNat) (by omega) (by omega) hkr.1 hkr.2 (by omega) ⟨by unfold felR; rw [if_pos (by omega), if_neg (by omega), if_neg (by omega)], by unfold felR; rw [if_pos (by omega), if_neg (by omega), if_neg (by omega)]⟩ (mi m 140 s.toNat - i).toNat i _ hS (by omega) (by omega) (by omega) (by omega) (mi_si_ne _ _ (fun q => absurd q.1 (by decide))) rfl
                  · skip
                    refine j_iconst rfl ?_
                    refine j_iret rfl rfl ?_ rfl (Nat.le_refl _)
                    first
                      | (exfalso; omega)
                      | (refine ⟨by unfold felR; rw [if_pos (by omega), if_neg (by omega), if_pos (by omega)], ?_⟩; unfold felR; rw [if_pos (by omega), if_neg (by omega), if_pos (by omega)]; first | (rw [if_pos (by omega)]; rfl) | (rw [if_neg (by omega)]; rfl))
            · skip
              refine j_iconst rfl ?_
              refine j_goto (tgt := 75) rfl (by decide) ?_
              refine j_iast (n := 24) rfl (hS.lt (by decide)) (hS.k (by decide) (by decide)) (hS.n (by decide) (by decide)) (by omega) (by omega) (by first | decide | omega) ?_
              refine j_iload_n rfl rfl ?_
              refine j_if_lt (tgt := 94) rfl (by decide) (by omega) (by omega) (fun hb77_10 => ?_) (fun hb77_10 => ?_)
              · skip
                refine j_iconst rfl ?_
                refine j_iret rfl rfl ?_ rfl (Nat.le_refl _)
                first
                  | (exfalso; omega)
                  | (refine ⟨by unfold felR; rw [if_pos (by omega), if_neg (by omega), if_pos (by omega)], ?_⟩; unfold felR; rw [if_pos (by omega), if_neg (by omega), if_pos (by omega)]; first | (rw [if_pos (by omega)]; rfl) | (rw [if_neg (by omega)]; rfl))
              · skip
                refine j_aload_n rfl rfl ?_
                refine j_getR (q := 139) rfl f_X12_169 rfl (hS.lt (by decide)) (hS.k (by decide) (by decide)) (hS.r (by decide)) ?_
                refine j_iload_n rfl rfl ?_
                refine j_iald (n := 6) rfl (hS.lt (by decide)) (hS.k (by decide) (by decide)) (hS.n (by decide) (by decide)) (by omega) (by omega) (by decide) ?_
                rw [show mi (si m 104 ((3 * (fk / 10)) + (fk % 10)).toNat (-1)) 139 s.toNat = mi m 139 s.toNat from by simp [mi_si, mi_fil, mi_cpr, mi_sl, mi_sr, ml_sl, ml_si, ml_sr, ml_fil, ml_cpr]]
                have u85_10 := hI.a 139 (-6) 5 (by decide) s.toNat
                refine j_iconst rfl ?_
                refine j_icmp_eq (tgt := 94) rfl (by decide) (by omega) (by omega) (by omega) (by omega) (fun hb87_10 => ?_) (fun hb87_10 => ?_)
                · skip
                  refine j_iconst rfl ?_
                  refine j_iret rfl rfl ?_ rfl (Nat.le_refl _)
                  first
                    | (exfalso; omega)
                    | (refine ⟨by unfold felR; rw [if_pos (by omega), if_neg (by omega), if_pos (by omega)], ?_⟩; unfold felR; rw [if_pos (by omega), if_neg (by omega), if_pos (by omega)]; first | (rw [if_pos (by omega)]; rfl) | (rw [if_neg (by omega)]; rfl))
                · skip
                  refine j_iload_n rfl rfl ?_
                  refine j_if_ge (tgt := 96) rfl (by decide) (by omega) (by omega) (fun hb91_10 => ?_) (fun hb91_10 => ?_)
                  · skip
                    refine j_iload_n rfl rfl ?_
                    refine j_istore rfl (by decide) ?_
                    exfalso; omega
                  · skip
                    refine j_iconst rfl ?_
                    refine j_iret rfl rfl ?_ rfl (Nat.le_refl _)
                    first
                      | (exfalso; omega)
                      | (refine ⟨by unfold felR; rw [if_pos (by omega), if_neg (by omega), if_pos (by omega)], ?_⟩; unfold felR; rw [if_pos (by omega), if_neg (by omega), if_pos (by omega)]; first | (rw [if_pos (by omega)]; rfl) | (rw [if_neg (by omega)]; rfl))
          · skip
            refine j_aload_n rfl rfl ?_
            refine j_iload_n rfl rfl ?_
            refine j_callV (ci := 12) rfl okX12_isReals c_X12_281 (ct_X12_isReals hS hI (by omega) (by omega) (by omega) (by omega)) rfl rfl (hS.lt (by decide)) (hS.k (by decide) (by decide)) (by decide) rfl (Nat.le_of_ble_eq_true rfl) (by decide) (by decide) ?_
            rintro vq mq ⟨e1, e2⟩
            rw [e1, e2]
            clear e1 e2
            simp only [Option.toList_some, Option.toList_none, List.cons_append, List.nil_append]
            have w3 := hI.a 139 (-6) 5 (by decide) s.toNat
            refine j_bif_ne (tgt := 60) rfl (by decide) (fun hb54_2 => ?_) (fun hb54_2 => ?_)
            · skip
              refine j_aload_n rfl rfl ?_
              refine j_getR (q := 104) rfl f_X12_63 rfl (hS.lt (by decide)) (hS.k (by decide) (by decide)) (hS.r (by decide)) ?_
              refine j_iload rfl rfl ?_
              refine j_iload_n rfl rfl ?_
              refine j_if_ge (tgt := 74) rfl (by decide) (by omega) (by omega) (fun hb67_6 => ?_) (fun hb67_6 => ?_)
              · skip
                refine j_iconst rfl ?_
                refine j_iast (n := 24) rfl (hS.lt (by decide)) (hS.k (by decide) (by decide)) (hS.n (by decide) (by decide)) (by omega) (by omega) (by first | decide | omega) ?_
                refine j_iload_n rfl rfl ?_
                refine j_if_lt (tgt := 94) rfl (by decide) (by omega) (by omega) (fun hb77_11 => ?_) (fun hb77_11 => ?_)
                · skip
                  refine j_iconst rfl ?_
                  refine j_iret rfl rfl ?_ rfl (Nat.le_refl _)
                  first
                    | (exfalso; omega)
                    | (refine ⟨by unfold felR; rw [if_pos (by omega), if_neg (by omega), if_pos (by omega)], ?_⟩; unfold felR; rw [if_pos (by omega), if_neg (by omega), if_pos (by omega)]; first | (rw [if_pos (by omega)]; rfl) | (rw [if_neg (by omega)]; rfl))
                · skip
                  refine j_aload_n rfl rfl ?_
                  refine j_getR (q := 139) rfl f_X12_169 rfl (hS.lt (by decide)) (hS.k (by decide) (by decide)) (hS.r (by decide)) ?_
                  refine j_iload_n rfl rfl ?_
                  refine j_iald (n := 6) rfl (hS.lt (by decide)) (hS.k (by decide) (by decide)) (hS.n (by decide) (by decide)) (by omega) (by omega) (by decide) ?_
                  rw [show mi (si m 104 ((3 * (fk / 10)) + (fk % 10)).toNat 0) 139 s.toNat = mi m 139 s.toNat from by simp [mi_si, mi_fil, mi_cpr, mi_sl, mi_sr, ml_sl, ml_si, ml_sr, ml_fil, ml_cpr]]
                  have u85_11 := hI.a 139 (-6) 5 (by decide) s.toNat
                  refine j_iconst rfl ?_
                  refine j_icmp_eq (tgt := 94) rfl (by decide) (by omega) (by omega) (by omega) (by omega) (fun hb87_11 => ?_) (fun hb87_11 => ?_)
                  · skip
                    refine j_iconst rfl ?_
                    refine j_iret rfl rfl ?_ rfl (Nat.le_refl _)
                    first
                      | (exfalso; omega)
                      | (refine ⟨by unfold felR; rw [if_pos (by omega), if_neg (by omega), if_pos (by omega)], ?_⟩; unfold felR; rw [if_pos (by omega), if_neg (by omega), if_pos (by omega)]; first | (rw [if_pos (by omega)]; rfl) | (rw [if_neg (by omega)]; rfl))
                  · skip
                    refine j_iload_n rfl rfl ?_
                    refine j_if_ge (tgt := 96) rfl (by decide) (by omega) (by omega) (fun hb91_11 => ?_) (fun hb91_11 => ?_)
                    · skip
                      refine j_iload_n rfl rfl ?_
                      refine j_istore rfl (by decide) ?_
                      have hk : (3 * (fk / 10)) + (fk % 10) = fkX fk := rfl
                      rw [hk]
                      refine j_loc (ls' := [(0, vR 86), (1, vI fk), (2, vI s), (3, vI i), (4, vI (fkX fk)), (5, vI i)]) rfl ?_
                      have et : mi (si m 104 (fkX fk).toNat 0) 104 (fkX fk).toNat = 0 := mi_si_same _ _ _ (by decide) (by decide)
                      have hkr : 0 ≤ fkX fk ∧ fkX fk ≤ 23 := by unfold fkX; omega
                      exact lp_feltRow_99 (E := frLr s (fkX fk) (mi m 140 s.toNat - i).toNat i (si m 104 (fkX fk).toNat 0)) (z := mi m 140 s.toNat) (by omega) (by omega) hkr.1 hkr.2 (by omega) ⟨by unfold felR; rw [if_pos (by omega), if_neg (by omega), if_neg (by omega)], by unfold felR; rw [if_pos (by omega), if_neg (by omega), if_neg (by omega)]⟩ (mi m 140 s.toNat - i).toNat i _ hS (by omega) (by omega) (by omega) (by omega) (mi_si_ne _ _ (fun q => absurd q.1 (by decide))) rfl
                    · skip
                      refine j_iconst rfl ?_
                      refine j_iret rfl rfl ?_ rfl (Nat.le_refl _)
                      first
                        | (exfalso; omega)
                        | (refine ⟨by unfold felR; rw [if_pos (by omega), if_neg (by omega), if_pos (by omega)], ?_⟩; unfold felR; rw [if_pos (by omega), if_neg (by omega), if_pos (by omega)]; first | (rw [if_pos (by omega)]; rfl) | (rw [if_neg (by omega)]; rfl))
              · skip
                refine j_iconst rfl ?_
                refine j_goto (tgt := 75) rfl (by decide) ?_
                refine j_iast (n := 24) rfl (hS.lt (by decide)) (hS.k (by decide) (by decide)) (hS.n (by decide) (by decide)) (by omega) (by omega) (by first | decide | omega) ?_
                refine j_iload_n rfl rfl ?_
                refine j_if_lt (tgt := 94) rfl (by decide) (by omega) (by omega) (fun hb77_12 => ?_) (fun hb77_12 => ?_)
                · skip
                  refine j_iconst rfl ?_
                  refine j_iret rfl rfl ?_ rfl (Nat.le_refl _)
                  first
                    | (exfalso; omega)
                    | (refine ⟨by unfold felR; rw [if_pos (by omega), if_neg (by omega), if_pos (by omega)], ?_⟩; unfold felR; rw [if_pos (by omega), if_neg (by omega), if_pos (by omega)]; first | (rw [if_pos (by omega)]; rfl) | (rw [if_neg (by omega)]; rfl))
                · skip
                  refine j_aload_n rfl rfl ?_
                  refine j_getR (q := 139) rfl f_X12_169 rfl (hS.lt (by decide)) (hS.k (by decide) (by decide)) (hS.r (by decide)) ?_
                  refine j_iload_n rfl rfl ?_
                  refine j_iald (n := 6) rfl (hS.lt (by decide)) (hS.k (by decide) (by decide)) (hS.n (by decide) (by decide)) (by omega) (by omega) (by decide) ?_
                  rw [show mi (si m 104 ((3 * (fk / 10)) + (fk % 10)).toNat (-1)) 139 s.toNat = mi m 139 s.toNat from by simp [mi_si, mi_fil, mi_cpr, mi_sl, mi_sr, ml_sl, ml_si, ml_sr, ml_fil, ml_cpr]]
                  have u85_12 := hI.a 139 (-6) 5 (by decide) s.toNat
                  refine j_iconst rfl ?_
                  refine j_icmp_eq (tgt := 94) rfl (by decide) (by omega) (by omega) (by omega) (by omega) (fun hb87_12 => ?_) (fun hb87_12 => ?_)
                  · skip
                    refine j_iconst rfl ?_
                    refine j_iret rfl rfl ?_ rfl (Nat.le_refl _)
                    first
                      | (exfalso; omega)
                      | (refine ⟨by unfold felR; rw [if_pos (by omega), if_neg (by omega), if_pos (by omega)], ?_⟩; unfold felR; rw [if_pos (by omega), if_neg (by omega), if_pos (by omega)]; first | (rw [if_pos (by omega)]; rfl) | (rw [if_neg (by omega)]; rfl))
                  · skip
                    refine j_iload_n rfl rfl ?_
                    refine j_if_ge (tgt := 96) rfl (by decide) (by omega) (by omega) (fun hb91_12 => ?_) (fun hb91_12 => ?_)
                    · skip
                      refine j_iload_n rfl rfl ?_
                      refine j_istore rfl (by decide) ?_
                      exfalso; omega
                    · skip
                      refine j_iconst rfl ?_
                      refine j_iret rfl rfl ?_ rfl (Nat.le_refl _)
                      first
                        | (exfalso; omega)
                        | (refine ⟨by unfold felR; rw [if_pos (by omega), if_neg (by omega), if_pos (by omega)], ?_⟩; unfold felR; rw [if_pos (by omega), if_neg (by omega), if_pos (by omega)]; first | (rw [if_pos (by omega)]; rfl) | (rw [if_neg (by omega)]; rfl))
            · skip
              refine j_bipush rfl (by decide) ?_
              refine j_iret rfl rfl ?_ rfl (Nat.le_refl _)
              exact ⟨by unfold felR; rw [if_pos (by omega), if_pos (by omega)], by unfold felR; rw [if_pos (by omega), if_pos (by omega)]⟩
      · skip
        refine j_iconst rfl ?_
        refine j_iret rfl rfl ?_ rfl (Nat.le_refl _)
        exact ⟨by unfold felR; rw [if_neg (by omega)], by unfold felR; rw [if_neg (by omega)]⟩


/-- 1 if person o has signed paper p -/
def sgF (N : AM) (p : Int) : Nat → Int := fun o => if mi N 137 ((12 * p) + o).toNat > 0 then 1 else 0
theorem sgF_up {N : AM} {p o : Int} (h : 0 ≤ o) : cntI (sgF N p) (o + 1).toNat = cntI (sgF N p) o.toNat + (if mi N 137 ((12 * p) + o).toNat > 0 then 1 else 0) := by
  rw [cntI_up h]
  unfold sgF
  rw [show ((o.toNat : Nat) : Int) = o by omega]
  congr 1
  by_cases q : mi N 137 ((12 * p) + o).toNat > 0
  · rw [if_pos q, if_pos (by decide)]
  · rw [if_neg q, if_neg (by decide)]
def sgM (m : AM) (who p before : Int) : AM := si m 137 ((12 * p) + who).toNat (z_ior before 1048576)
/-- sign() of the reference -/
def sigR (m : AM) (who p before : Int) : Int × AM :=
  if (0 ≤ who ∧ who ≤ 11) ∧ (0 ≤ p ∧ p < mi m 86 70) ∧ 0 ≤ before ∧ z_ishr before (mi m 86 70) = 0 then
    if mi m 137 ((12 * p) + who).toNat > 0 then (-5, m) else (cntI (sgF (sgM m who p before) p) 12, sgM m who p before)
  else (-1, m)

set_option maxRecDepth 20000 in
theorem lp_sign_69 {G : QW} {m : AM} {who p before : Int} {Rp : Option Vl → AM → Prop} (hS : St m) (hp0 : 0 ≤ p) (hp9 : p ≤ 19) (hfin : Rp (some (vI (cntI (sgF m p) 12))) m) : ∀ (x : Nat) (o : Int), o + x = 12 → 0 ≤ o → qJ G mX12_sign { frames := 2, cells := 0, slots := 0, locals := 60 * 2 } (qF G Rp 0 0) 69 [(0, vR 86), (1, vI who), (2, vI p), (3, vI before), (5, vI (cntI (sgF m p) o.toNat)), (6, vI o)] [] m 0 0 := by
  intro x
  induction x with
  | zero =>
    intro o hx ho0
    have hcr := cntI_rng (sgF m p) o.toNat
    refine j_iload rfl rfl ?_
    refine j_bipush rfl (by decide) ?_
    refine j_icmp_ge (tgt := 107) rfl (by decide) (by omega) (by omega) (by omega) (by omega) (fun hb73_1 => ?_) (fun hb73_1 => ?_)
    · skip
      refine j_iload rfl rfl ?_
      refine j_iret rfl rfl ?_ rfl (Nat.le_refl _)
      rw [show o = 12 by omega]
      exact hfin
    · skip
      exfalso; omega
  | succ x ih =>
    intro o hx ho0
    have hcr := cntI_rng (sgF m p) o.toNat
    refine j_iload rfl rfl ?_
    refine j_bipush rfl (by decide) ?_
    refine j_icmp_ge (tgt := 107) rfl (by decide) (by omega) (by omega) (by omega) (by omega) (fun hb73_1 => ?_) (fun hb73_1 => ?_)
    · skip
      exfalso; omega
    · skip
      refine j_iload rfl rfl ?_
      refine j_aload_n rfl rfl ?_
      refine j_getR (q := 137) rfl f_X12_163 rfl (hS.lt (by decide)) (hS.k (by decide) (by decide)) (hS.r (by decide)) ?_
      refine j_bipush rfl (by decide) ?_
      refine j_iload_n rfl rfl ?_
      refine j_imul rfl ?_
      refine j_iload rfl rfl ?_
      refine j_iadd rfl ?_
      refine j_iald (n := 240) rfl (hS.lt (by decide)) (hS.k (by decide) (by decide)) (hS.n (by decide) (by decide)) (by omega) (by omega) (by decide) ?_
      have u89_1 := mi_rng m 137 ((12 * p) + o).toNat
      refine j_if_le (tgt := 97) rfl (by decide) (by omega) (by omega) (fun hb90_1 => ?_) (fun hb90_1 => ?_)
      · skip
        refine j_iconst rfl ?_
        refine j_iadd rfl ?_
        refine j_istore rfl (by decide) ?_
        refine j_iinc rfl rfl (by decide) ?_
        refine j_goto (tgt := 69) rfl (by decide) ?_
        have hu : (cntI (sgF m p) o.toNat) + 0 = (cntI (sgF m p) (o + 1).toNat) := by rw [sgF_up ho0]; first | (rw [if_pos (by omega)]; done) | (rw [if_neg (by omega)]; done)
        refine j_loc (ls' := [(0, vR 86), (1, vI who), (2, vI p), (3, vI before), (5, vI (cntI (sgF m p) (o + 1).toNat)), (6, vI (o + 1))]) (by rw [← hu]; rfl) ?_
        exact ih (o + 1) (by omega) (by omega)
      · skip
        refine j_iconst rfl ?_
        refine j_goto (tgt := 98) rfl (by decide) ?_
        refine j_iadd rfl ?_
        refine j_istore rfl (by decide) ?_
        refine j_iinc rfl rfl (by decide) ?_
        refine j_goto (tgt := 69) rfl (by decide) ?_
        have hu : (cntI (sgF m p) o.toNat) + 1 = (cntI (sgF m p) (o + 1).toNat) := by rw [sgF_up ho0]; first | (rw [if_pos (by omega)]; done) | (rw [if_neg (by omega)]; done)
        refine j_loc (ls' := [(0, vR 86), (1, vI who), (2, vI p), (3, vI before), (5, vI (cntI (sgF m p) (o + 1).toNat)), (6, vI (o + 1))]) (by rw [← hu]; rfl) ?_
        exact ih (o + 1) (by omega) (by omega)

set_option maxRecDepth 20000 in
theorem ct_X12_sign {G : QW} {m : AM} {who p before : Int} (hS : St m) (hI : IM m) (hwho1 : -2147483648 ≤ who) (hwho2 : who < 2147483648) (hp1 : -2147483648 ≤ p) (hp2 : p < 2147483648) (hbefore1 : -2147483648 ≤ before) (hbefore2 : before < 2147483648) : qM G mX12_sign 2 0 0 [vR 86, vI who, vI p, vI before] m (fun r m' => r = some (vI (sigR m who p before).1) ∧ m' = (sigR m who p before).2) := by
  refine qM.intro okX12_sign (Nat.le_of_ble_eq_true rfl) ?_
  have hpp := hI.s 86 70 0 20 (by decide)
  refine j_iload_n rfl rfl ?_
  refine j_callS (As := [_]) rfl okX12_isPerson c_X12_470 (ct_X12_isPerson (by omega) (by omega)) rfl rfl (Nat.le_of_ble_eq_true rfl) (by decide) (by decide) ?_
  rintro vq mq ⟨e1, e2⟩
  rw [e1, e2]
  clear e1 e2
  simp only [Option.toList_some, Option.toList_none, List.cons_append, List.nil_append]
  refine j_bif_eq (tgt := 28) rfl (by decide) (fun hb4_1 => ?_) (fun hb4_1 => ?_)
  · skip
    refine j_iconst rfl ?_
    refine j_iret rfl rfl ?_ rfl (Nat.le_refl _)
    exact ⟨by unfold sigR; rw [if_neg (by omega)], by unfold sigR; rw [if_neg (by omega)]⟩
  · skip
    refine j_aload_n rfl rfl ?_
    refine j_iload_n rfl rfl ?_
    refine j_callV (ci := 12) rfl okX12_isPaper c_X12_461 (ct_X12_isPaper hS hI (by omega) (by omega)) rfl rfl (hS.lt (by decide)) (hS.k (by decide) (by decide)) (by decide) rfl (Nat.le_of_ble_eq_true rfl) (by decide) (by decide) ?_
    rintro vq mq ⟨e1, e2⟩
    rw [e1, e2]
    clear e1 e2
    simp only [Option.toList_some, Option.toList_none, List.cons_append, List.nil_append]
    have w1 := hI.s 86 70 (0) 20 (by decide)
    refine j_bif_eq (tgt := 28) rfl (by decide) (fun hb12_1 => ?_) (fun hb12_1 => ?_)
    · skip
      refine j_iconst rfl ?_
      refine j_iret rfl rfl ?_ rfl (Nat.le_refl _)
      exact ⟨by unfold sigR; rw [if_neg (by omega)], by unfold sigR; rw [if_neg (by omega)]⟩
    · skip
      refine j_iload_n rfl rfl ?_
      refine j_if_lt (tgt := 28) rfl (by decide) (by omega) (by omega) (fun hb16_1 => ?_) (fun hb16_1 => ?_)
      · skip
        refine j_iconst rfl ?_
        refine j_iret rfl rfl ?_ rfl (Nat.le_refl _)
        exact ⟨by unfold sigR; rw [if_neg (by omega)], by unfold sigR; rw [if_neg (by omega)]⟩
      · skip
        refine j_iload_n rfl rfl ?_
        refine j_aload_n rfl rfl ?_
        refine j_getI rfl f_X12_458 rfl (hS.lt (by decide)) (hS.k (by decide) (by decide)) ?_
        have u21_1 := hI.s 86 70 (0) 20 (by decide)
        refine j_ishr rfl ?_
        have z24_1 := z_ishr_rng before (mi m 86 70)
        refine j_if_eq (tgt := 30) rfl (by decide) (by omega) (by omega) (fun hb25_1 => ?_) (fun hb25_1 => ?_)
        · skip
          refine j_bipush rfl (by decide) ?_
          refine j_iload_n rfl rfl ?_
          refine j_imul rfl ?_
          refine j_iload_n rfl rfl ?_
          refine j_iadd rfl ?_
          refine j_istore rfl (by decide) ?_
          refine j_aload_n rfl rfl ?_
          refine j_getR (q := 137) rfl f_X12_163 rfl (hS.lt (by decide)) (hS.k (by decide) (by decide)) (hS.r (by decide)) ?_
          refine j_iload rfl rfl ?_
          refine j_iald (n := 240) rfl (hS.lt (by decide)) (hS.k (by decide) (by decide)) (hS.n (by decide) (by decide)) (by omega) (by omega) (by decide) ?_
          have u44_1 := mi_rng m 137 ((12 * p) + who).toNat
          refine j_if_le (tgt := 51) rfl (by decide) (by omega) (by omega) (fun hb45_1 => ?_) (fun hb45_1 => ?_)
          · skip
            refine j_aload_n rfl rfl ?_
            refine j_getR (q := 137) rfl f_X12_163 rfl (hS.lt (by decide)) (hS.k (by decide) (by decide)) (hS.r (by decide)) ?_
            refine j_iload rfl rfl ?_
            refine j_iload_n rfl rfl ?_
            refine j_ldcw (v := 1048576) rfl k_X12_473 ?_
            refine j_ior rfl ?_
            have z61_1 := z_ior_rng before 1048576
            refine j_iast (n := 240) rfl (hS.lt (by decide)) (hS.k (by decide) (by decide)) (hS.n (by decide) (by decide)) (by omega) (by omega) (by first | decide | omega) ?_
            refine j_iconst rfl ?_
            refine j_istore rfl (by decide) ?_
            refine j_iconst rfl ?_
            refine j_istore rfl (by decide) ?_
            refine j_loc (ls' := [(0, vR 86), (1, vI who), (2, vI p), (3, vI before), (5, vI 0), (6, vI 0)]) rfl ?_
            exact lp_sign_69 (m := sgM m who p before) hS (by omega) (by omega) ⟨by unfold sigR; rw [if_pos (by omega), if_neg (by omega)], by unfold sigR; rw [if_pos (by omega), if_neg (by omega)]⟩ 12 0 (by decide) (by decide)
          · skip
            refine j_bipush rfl (by decide) ?_
            refine j_iret rfl rfl ?_ rfl (Nat.le_refl _)
            exact ⟨by unfold sigR; rw [if_pos (by omega), if_pos (by omega)], by unfold sigR; rw [if_pos (by omega), if_pos (by omega)]⟩
        · skip
          refine j_iconst rfl ?_
          refine j_iret rfl rfl ?_ rfl (Nat.le_refl _)
          exact ⟨by unfold sigR; rw [if_neg (by omega)], by unfold sigR; rw [if_neg (by omega)]⟩

/-- a set with what paper p stands on -/
def stW (m : AM) (p all : Int) : Int :=
  let a := if mi m 136 (2 * p).toNat ≥ 0 then z_ior all (z_ishl 1 (mi m 136 (2 * p).toNat)) else all
  if mi m 136 ((2 * p) + 1).toNat ≥ 0 then z_ior a (z_ishl 1 (mi m 136 ((2 * p) + 1).toNat)) else a
def waL (m : AM) : Nat → Int → Int
  | 0, all => all
  | p + 1, all => waL m p (if z_iand (z_ishr all p) 1 = 0 then all else stW m p all)
/-- papers and all on which they stand -/
def waX (m : AM) (s : Int) : Int := waL m (mi m 86 70).toNat (z_iand s 1048575)
theorem stW_rng (m : AM) (p : Int) {all : Int} (h : -2147483648 ≤ all ∧ all < 2147483648) : -2147483648 ≤ stW m p all ∧ stW m p all < 2147483648 := by
  unfold stW
  dsimp only
  split
  · exact z_ior_rng _ _
  · split
    · exact z_ior_rng _ _
    · exact h
theorem waL_rng (m : AM) : ∀ (p : Nat) (all : Int), (-2147483648 ≤ all ∧ all < 2147483648) → -2147483648 ≤ waL m p all ∧ waL m p all < 2147483648 := by
  intro p
  induction p with
  | zero => intro all h; exact h
  | succ p ih =>
    intro all h
    refine ih _ ?_
    split
    · exact h
    · exact stW_rng _ _ h
theorem waX_rng (m : AM) (s : Int) : -2147483648 ≤ waX m s ∧ waX m s < 2147483648 := waL_rng m _ _ (z_iand_rng _ _)

set_option maxRecDepth 20000 in
set_option maxHeartbeats 4000000 in
theorem lp_withAll_13 {G : QW} {m : AM} {s0 E : Int} (hS : St m) (hI : IM m) : ∀ (x : Nat) (q a : Int), q + 1 = x ∧ q ≤ 19 → (-2147483648 ≤ a ∧ a < 2147483648) → waL m x a = E → qJ G mX12_withAll { frames := 0, cells := 0, slots := 0, locals := 60 * 0 } (qF G (fun r m' => r = some (vI E) ∧ m' = m) 0 0) 13 [(0, vR 86), (1, vI s0), (2, vI a), (3, vI q)] [] m 0 0 := by
  intro x
  induction x with
  | zero =>
    intro q a hq har hE
    refine j_iload_n rfl rfl ?_
    refine j_if_lt (tgt := 77) rfl (by decide) (by omega) (by omega) (fun hb14_1 => ?_) (fun hb14_1 => ?_)
    · skip
      refine j_iload_n rfl rfl ?_
      refine j_iret rfl rfl ?_ rfl (Nat.le_refl _)
      have hE : a = E := hE
      subst hE
      exact ⟨rfl, rfl⟩
    · skip
      exfalso; omega
  | succ x ih =>
    intro q a hq har hE
    have hqx : ((x : Nat) : Int) = q := by omega
    simp only [waL, hqx] at hE
    refine j_iload_n rfl rfl ?_
    refine j_if_lt (tgt := 77) rfl (by decide) (by omega) (by omega) (fun hb14_1 => ?_) (fun hb14_1 => ?_)
    · skip
      exfalso; omega
    · skip
      refine j_iload_n rfl rfl ?_
      refine j_iload_n rfl rfl ?_
      refine j_ishr rfl ?_
      have z19_1 := z_ishr_rng a q
      refine j_iconst rfl ?_
      refine j_iand rfl ?_
      have z21_1 := z_iand_rng (z_ishr a q) 1
      refine j_if_ne (tgt := 28) rfl (by decide) (by omega) (by omega) (fun hb22_1 => ?_) (fun hb22_1 => ?_)
      · skip
        refine j_iconst rfl ?_
        refine j_iload_n rfl rfl ?_
        refine j_imul rfl ?_
        refine j_istore rfl (by decide) ?_
        refine j_iload rfl rfl ?_
        refine j_iconst rfl ?_
        refine j_iload_n rfl rfl ?_
        refine j_imul rfl ?_
        refine j_iconst rfl ?_
        refine j_iadd rfl ?_
        refine j_icmp_ge (tgt := 71) rfl (by decide) (by omega) (by omega) (by omega) (by omega) (fun hb40_1 => ?_) (fun hb40_1 => ?_)
        · skip
          exfalso; omega
        · skip
          refine j_aload_n rfl rfl ?_
          refine j_getR (q := 136) rfl f_X12_160 rfl (hS.lt (by decide)) (hS.k (by decide) (by decide)) (hS.r (by decide)) ?_
          refine j_iload rfl rfl ?_
          refine j_iald (n := 40) rfl (hS.lt (by decide)) (hS.k (by decide) (by decide)) (hS.n (by decide) (by decide)) (by omega) (by omega) (by decide) ?_
          have u49_1 := hI.a 136 (-1) 19 (by decide) (2 * q).toNat
          refine j_if_lt (tgt := 65) rfl (by decide) (by omega) (by omega) (fun hb50_1 => ?_) (fun hb50_1 => ?_)
          · skip
            refine j_iinc rfl rfl (by decide) ?_
            refine j_goto (tgt := 33) rfl (by decide) ?_
            refine j_iload rfl rfl ?_
            refine j_iconst rfl ?_
            refine j_iload_n rfl rfl ?_
            refine j_imul rfl ?_
            refine j_iconst rfl ?_
            refine j_iadd rfl ?_
            refine j_icmp_ge (tgt := 71) rfl (by decide) (by omega) (by omega) (by omega) (by omega) (fun hb40_2 => ?_) (fun hb40_2 => ?_)
            · skip
              exfalso; omega
            · skip
              refine j_aload_n rfl rfl ?_
              refine j_getR (q := 136) rfl f_X12_160 rfl (hS.lt (by decide)) (hS.k (by decide) (by decide)) (hS.r (by decide)) ?_
              refine j_iload rfl rfl ?_
              refine j_iald (n := 40) rfl (hS.lt (by decide)) (hS.k (by decide) (by decide)) (hS.n (by decide) (by decide)) (by omega) (by omega) (by decide) ?_
              have u49_2 := hI.a 136 (-1) 19 (by decide) ((2 * q) + 1).toNat
              refine j_if_lt (tgt := 65) rfl (by decide) (by omega) (by omega) (fun hb50_2 => ?_) (fun hb50_2 => ?_)
              · skip
                refine j_iinc rfl rfl (by decide) ?_
                refine j_goto (tgt := 33) rfl (by decide) ?_
                refine j_iload rfl rfl ?_
                refine j_iconst rfl ?_
                refine j_iload_n rfl rfl ?_
                refine j_imul rfl ?_
                refine j_iconst rfl ?_
                refine j_iadd rfl ?_
                refine j_icmp_ge (tgt := 71) rfl (by decide) (by omega) (by omega) (by omega) (by omega) (fun hb40_3 => ?_) (fun hb40_3 => ?_)
                · skip
                  rw [if_neg (by omega)] at hE
                  have hu : a = stW m q a := by unfold stW; dsimp only; first | (rw [if_pos (by omega), if_pos (by omega)]; done) | (rw [if_pos (by omega), if_neg (by omega)]; done) | (rw [if_neg (by omega), if_pos (by omega)]; done) | (rw [if_neg (by omega), if_neg (by omega)]; done)
                  refine j_loc (ls' := [(0, vR 86), (1, vI s0), (2, vI (stW m q a)), (3, vI q)]) (by rw [← hu]; rfl) ?_
                  refine j_iinc rfl rfl (by decide) ?_
                  refine j_goto (tgt := 13) rfl (by decide) ?_
                  refine j_loc (ls' := [(0, vR 86), (1, vI s0), (2, vI (stW m q a)), (3, vI (q - 1))]) rfl ?_
                  exact ih (q - 1) _ (by omega) (stW_rng m q har) hE
                · skip
                  exfalso; omega
              · skip
                refine j_iload_n rfl rfl ?_
                refine j_iconst rfl ?_
                refine j_aload_n rfl rfl ?_
                refine j_getR (q := 136) rfl f_X12_160 rfl (hS.lt (by decide)) (hS.k (by decide) (by decide)) (hS.r (by decide)) ?_
                refine j_iload rfl rfl ?_
                refine j_iald (n := 40) rfl (hS.lt (by decide)) (hS.k (by decide) (by decide)) (hS.n (by decide) (by decide)) (by omega) (by omega) (by decide) ?_
                have u61_1 := hI.a 136 (-1) 19 (by decide) ((2 * q) + 1).toNat
                refine j_ishl rfl ?_
                have z62_1 := z_ishl_rng 1 (mi m 136 ((2 * q) + 1).toNat)
                refine j_ior rfl ?_
                have z63_1 := z_ior_rng a (z_ishl 1 (mi m 136 ((2 * q) + 1).toNat))
                refine j_istore_n rfl (by decide) ?_
                refine j_iinc rfl rfl (by decide) ?_
                refine j_goto (tgt := 33) rfl (by decide) ?_
                refine j_iload rfl rfl ?_
                refine j_iconst rfl ?_
                refine j_iload_n rfl rfl ?_
                refine j_imul rfl ?_
                refine j_iconst rfl ?_
                refine j_iadd rfl ?_
                refine j_icmp_ge (tgt := 71) rfl (by decide) (by omega) (by omega) (by omega) (by omega) (fun hb40_4 => ?_) (fun hb40_4 => ?_)
                · skip
                  rw [if_neg (by omega)] at hE
                  have hu : z_ior a (z_ishl 1 (mi m 136 ((2 * q) + 1).toNat)) = stW m q a := by unfold stW; dsimp only; first | (rw [if_pos (by omega), if_pos (by omega)]; done) | (rw [if_pos (by omega), if_neg (by omega)]; done) | (rw [if_neg (by omega), if_pos (by omega)]; done) | (rw [if_neg (by omega), if_neg (by omega)]; done)
                  refine j_loc (ls' := [(0, vR 86), (1, vI s0), (2, vI (stW m q a)), (3, vI q)]) (by rw [← hu]; rfl) ?_
                  refine j_iinc rfl rfl (by decide) ?_
                  refine j_goto (tgt := 13) rfl (by decide) ?_
                  refine j_loc (ls' := [(0, vR 86), (1, vI s0), (2, vI (stW m q a)), (3, vI (q - 1))]) rfl ?_
                  exact ih (q - 1) _ (by omega) (stW_rng m q har) hE
                · skip
                  exfalso; omega
          · skip
            refine j_iload_n rfl rfl ?_
            refine j_iconst rfl ?_
            refine j_aload_n rfl rfl ?_
            refine j_getR (q := 136) rfl f_X12_160 rfl (hS.lt (by decide)) (hS.k (by decide) (by decide)) (hS.r (by decide)) ?_
            refine j_iload rfl rfl ?_
            refine j_iald (n := 40) rfl (hS.lt (by decide)) (hS.k (by decide) (by decide)) (hS.n (by decide) (by decide)) (by omega) (by omega) (by decide) ?_
            have u61_2 := hI.a 136 (-1) 19 (by decide) (2 * q).toNat
            refine j_ishl rfl ?_
            have z62_2 := z_ishl_rng 1 (mi m 136 (2 * q).toNat)
            refine j_ior rfl ?_
            have z63_2 := z_ior_rng a (z_ishl 1 (mi m 136 (2 * q).toNat))
            refine j_istore_n rfl (by decide) ?_
            refine j_iinc rfl rfl (by decide) ?_
            refine j_goto (tgt := 33) rfl (by decide) ?_
            refine j_iload rfl rfl ?_
            refine j_iconst rfl ?_
            refine j_iload_n rfl rfl ?_
            refine j_imul rfl ?_
            refine j_iconst rfl ?_
            refine j_iadd rfl ?_
            refine j_icmp_ge (tgt := 71) rfl (by decide) (by omega) (by omega) (by omega) (by omega) (fun hb40_5 => ?_) (fun hb40_5 => ?_)
            · skip
              exfalso; omega
            · skip
              refine j_aload_n rfl rfl ?_
              refine j_getR (q := 136) rfl f_X12_160 rfl (hS.lt (by decide)) (hS.k (by decide) (by decide)) (hS.r (by decide)) ?_
              refine j_iload rfl rfl ?_
              refine j_iald (n := 40) rfl (hS.lt (by decide)) (hS.k (by decide) (by decide)) (hS.n (by decide) (by decide)) (by omega) (by omega) (by decide) ?_
              have u49_3 := hI.a 136 (-1) 19 (by decide) ((2 * q) + 1).toNat
              refine j_if_lt (tgt := 65) rfl (by decide) (by omega) (by omega) (fun hb50_3 => ?_) (fun hb50_3 => ?_)
              · skip
                refine j_iinc rfl rfl (by decide) ?_
                refine j_goto (tgt := 33) rfl (by decide) ?_
                refine j_iload rfl rfl ?_
                refine j_iconst rfl ?_
                refine j_iload_n rfl rfl ?_
                refine j_imul rfl ?_
                refine j_iconst rfl ?_
                refine j_iadd rfl ?_
                refine j_icmp_ge (tgt := 71) rfl (by decide) (by omega) (by omega) (by omega) (by omega) (fun hb40_6 => ?_) (fun hb40_6 => ?_)
                · skip
                  rw [if_neg (by omega)] at hE
                  have hu : z_ior a (z_ishl 1 (mi m 136 (2 * q).toNat)) = stW m q a := by unfold stW; dsimp only; first | (rw [if_pos (by omega), if_pos (by omega)]; done) | (rw [if_pos (by omega), if_neg (by omega)]; done) | (rw [if_neg (by omega), if_pos (by omega)]; done) | (rw [if_neg (by omega), if_neg (by omega)]; done)
                  refine j_loc (ls' := [(0, vR 86), (1, vI s0), (2, vI (stW m q a)), (3, vI q)]) (by rw [← hu]; rfl) ?_
                  refine j_iinc rfl rfl (by decide) ?_
                  refine j_goto (tgt := 13) rfl (by decide) ?_
                  refine j_loc (ls' := [(0, vR 86), (1, vI s0), (2, vI (stW m q a)), (3, vI (q - 1))]) rfl ?_
                  exact ih (q - 1) _ (by omega) (stW_rng m q har) hE
                · skip
                  exfalso; omega
              · skip
                refine j_iload_n rfl rfl ?_
                refine j_iconst rfl ?_
                refine j_aload_n rfl rfl ?_
                refine j_getR (q := 136) rfl f_X12_160 rfl (hS.lt (by decide)) (hS.k (by decide) (by decide)) (hS.r (by decide)) ?_
                refine j_iload rfl rfl ?_
                refine j_iald (n := 40) rfl (hS.lt (by decide)) (hS.k (by decide) (by decide)) (hS.n (by decide) (by decide)) (by omega) (by omega) (by decide) ?_
                have u61_3 := hI.a 136 (-1) 19 (by decide) ((2 * q) + 1).toNat
                refine j_ishl rfl ?_
                have z62_3 := z_ishl_rng 1 (mi m 136 ((2 * q) + 1).toNat)
                refine j_ior rfl ?_
                have z63_3 := z_ior_rng (z_ior a (z_ishl 1 (mi m 136 (2 * q).toNat))) (z_ishl 1 (mi m 136 ((2 * q) + 1).toNat))
                refine j_istore_n rfl (by decide) ?_
                refine j_iinc rfl rfl (by decide) ?_
                refine j_goto (tgt := 33) rfl (by decide) ?_
                refine j_iload rfl rfl ?_
                refine j_iconst rfl ?_
                refine j_iload_n rfl rfl ?_
                refine j_imul rfl ?_
                refine j_iconst rfl ?_
                refine j_iadd rfl ?_
                refine j_icmp_ge (tgt := 71) rfl (by decide) (by omega) (by omega) (by omega) (by omega) (fun hb40_7 => ?_) (fun hb40_7 => ?_)
                · skip
                  rw [if_neg (by omega)] at hE
                  have hu : z_ior (z_ior a (z_ishl 1 (mi m 136 (2 * q).toNat))) (z_ishl 1 (mi m 136 ((2 * q) + 1).toNat)) = stW m q a := by unfold stW; dsimp only; first | (rw [if_pos (by omega), if_pos (by omega)]; done) | (rw [if_pos (by omega), if_neg (by omega)]; done) | (rw [if_neg (by omega), if_pos (by omega)]; done) | (rw [if_neg (by omega), if_neg (by omega)]; done)
                  refine j_loc (ls' := [(0, vR 86), (1, vI s0), (2, vI (stW m q a)), (3, vI q)]) (by rw [← hu]; rfl) ?_
                  refine j_iinc rfl rfl (by decide) ?_
                  refine j_goto (tgt := 13) rfl (by decide) ?_
                  refine j_loc (ls' := [(0, vR 86), (1, vI s0), (2, vI (stW m q a)), (3, vI (q - 1))]) rfl ?_
                  exact ih (q - 1) _ (by omega) (stW_rng m q har) hE
                · skip
                  exfalso; omega
      · skip
        refine j_goto (tgt := 71) rfl (by decide) ?_
        refine j_iinc rfl rfl (by decide) ?_
        refine j_goto (tgt := 13) rfl (by decide) ?_
        rw [if_pos (by omega)] at hE
        refine j_loc (ls' := [(0, vR 86), (1, vI s0), (2, vI a), (3, vI (q - 1))]) rfl ?_
        exact ih (q - 1) a (by omega) har hE

theorem ct_X12_withAll {G : QW} {m : AM} {s0 : Int} (hS : St m) (hI : IM m) (h1 : -2147483648 ≤ s0) (h2 : s0 < 2147483648) : qM G mX12_withAll 0 0 0 [vR 86, vI s0] m (fun r m' => r = some (vI (waX m s0)) ∧ m' = m) := by
  refine qM.intro okX12_withAll (Nat.le_of_ble_eq_true rfl) ?_
  refine j_iload_n rfl rfl ?_
  refine j_ldcw (v := 1048575) rfl k_X12_474 ?_
  refine j_iand rfl ?_
  have z4_1 := z_iand_rng s0 1048575
  refine j_istore_n rfl (by decide) ?_
  refine j_aload_n rfl rfl ?_
  refine j_getI rfl f_X12_458 rfl (hS.lt (by decide)) (hS.k (by decide) (by decide)) ?_
  have u7_1 := hI.s 86 70 (0) 20 (by decide)
  refine j_iconst rfl ?_
  refine j_isub rfl ?_
  refine j_istore_n rfl (by decide) ?_
  refine j_loc (ls' := [(0, vR 86), (1, vI s0), (2, vI (z_iand s0 1048575)), (3, vI (mi m 86 70 - 1))]) rfl ?_
  exact lp_withAll_13 (E := waX m s0) hS hI (mi m 86 70).toNat _ _ (by omega) (z_iand_rng _ _) rfl

def swF (m : AM) (p other : Int) : Nat → Int := fun o => if mi m 137 ((12 * p) + o).toNat > 0 ∧ z_iand (z_ishr (waX m (mi m 137 ((12 * p) + o).toNat)) other) 1 = 1 then 1 else 0
theorem swF_up {m : AM} {p other o : Int} (h : 0 ≤ o) : orL (swF m p other) (o + 1).toNat = if mi m 137 ((12 * p) + o).toNat > 0 ∧ z_iand (z_ishr (waX m (mi m 137 ((12 * p) + o).toNat)) other) 1 = 1 then z_ior (orL (swF m p other) o.toNat) (z_ishl 1 o) else orL (swF m p other) o.toNat := by
  rw [orL_up h]
  unfold swF
  rw [show ((o.toNat : Nat) : Int) = o by omega]
  by_cases q : mi m 137 ((12 * p) + o).toNat > 0 ∧ z_iand (z_ishr (waX m (mi m 137 ((12 * p) + o).toNat)) other) 1 = 1
  · rw [if_pos q, if_pos q, if_pos (by decide)]
  · rw [if_neg q, if_neg q, if_neg (by decide)]
/-- saw() of the reference -/
def sawR (m : AM) (p other : Int) : Int := if (0 ≤ p ∧ p < mi m 86 70) ∧ (0 ≤ other ∧ other < mi m 86 70) then orL (swF m p other) 12 else -1

set_option maxRecDepth 20000 in
theorem lp_saw_23 {G : QW} {m : AM} {p other : Int} {Rp : Option Vl → AM → Prop} (hS : St m) (hI : IM m) (hp0 : 0 ≤ p) (hp9 : p ≤ 19) (hfin : Rp (some (vI (orL (swF m p other) 12))) m) : ∀ (x : Nat) (o : Int), o + x = 12 → 0 ≤ o → qJ G mX12_saw { frames := 2, cells := 0, slots := 0, locals := 60 * 2 } (qF G Rp 0 0) 23 [(0, vR 86), (1, vI p), (2, vI other), (3, vI (orL (swF m p other) o.toNat)), (4, vI o)] [] m 0 0 := by
  intro x
  induction x with
  | zero =>
    intro o hx ho0
    have hor := orL_rng (swF m p other) o.toNat
    refine j_iload rfl rfl ?_
    refine j_bipush rfl (by decide) ?_
    refine j_icmp_ge (tgt := 82) rfl (by decide) (by omega) (by omega) (by omega) (by omega) (fun hb27_1 => ?_) (fun hb27_1 => ?_)
    · skip
      refine j_iload_n rfl rfl ?_
      refine j_iret rfl rfl ?_ rfl (Nat.le_refl _)
      rw [show o = 12 by omega]
      exact hfin
    · skip
      exfalso; omega
  | succ x ih =>
    intro o hx ho0
    have hor := orL_rng (swF m p other) o.toNat
    refine j_iload rfl rfl ?_
    refine j_bipush rfl (by decide) ?_
    refine j_icmp_ge (tgt := 82) rfl (by decide) (by omega) (by omega) (by omega) (by omega) (fun hb27_1 => ?_) (fun hb27_1 => ?_)
    · skip
      exfalso; omega
    · skip
      refine j_aload_n rfl rfl ?_
      refine j_getR (q := 137) rfl f_X12_163 rfl (hS.lt (by decide)) (hS.k (by decide) (by decide)) (hS.r (by decide)) ?_
      refine j_bipush rfl (by decide) ?_
      refine j_iload_n rfl rfl ?_
      refine j_imul rfl ?_
      refine j_iload rfl rfl ?_
      refine j_iadd rfl ?_
      refine j_iald (n := 240) rfl (hS.lt (by decide)) (hS.k (by decide) (by decide)) (hS.n (by decide) (by decide)) (by omega) (by omega) (by decide) ?_
      have u41_1 := mi_rng m 137 ((12 * p) + o).toNat
      refine j_if_le (tgt := 76) rfl (by decide) (by omega) (by omega) (fun hb42_1 => ?_) (fun hb42_1 => ?_)
      · skip
        refine j_iinc rfl rfl (by decide) ?_
        refine j_goto (tgt := 23) rfl (by decide) ?_
        have hu : (orL (swF m p other) o.toNat) = (orL (swF m p other) (o + 1).toNat) := by rw [swF_up ho0]; first | (rw [if_pos (by omega)]; done) | (rw [if_neg (by omega)]; done)
        refine j_loc (ls' := [(0, vR 86), (1, vI p), (2, vI other), (3, vI (orL (swF m p other) (o + 1).toNat)), (4, vI (o + 1))]) (by rw [← hu]; rfl) ?_
        exact ih (o + 1) (by omega) (by omega)
      · skip
        refine j_aload_n rfl rfl ?_
        refine j_aload_n rfl rfl ?_
        refine j_getR (q := 137) rfl f_X12_163 rfl (hS.lt (by decide)) (hS.k (by decide) (by decide)) (hS.r (by decide)) ?_
        refine j_bipush rfl (by decide) ?_
        refine j_iload_n rfl rfl ?_
        refine j_imul rfl ?_
        refine j_iload rfl rfl ?_
        refine j_iadd rfl ?_
        refine j_iald (n := 240) rfl (hS.lt (by decide)) (hS.k (by decide) (by decide)) (hS.n (by decide) (by decide)) (by omega) (by omega) (by decide) ?_
        have u57_1 := mi_rng m 137 ((12 * p) + o).toNat
        refine j_callV (ci := 12) rfl okX12_withAll c_X12_475 (ct_X12_withAll hS hI (by omega) (by omega)) rfl rfl (hS.lt (by decide)) (hS.k (by decide) (by decide)) (by decide) rfl (Nat.le_of_ble_eq_true rfl) (by decide) (by decide) ?_
        rintro vq mq ⟨e1, e2⟩
        rw [e1, e2]
        clear e1 e2
        simp only [Option.toList_some, Option.toList_none, List.cons_append, List.nil_append]
        have wr33 := waX_rng m (mi m 137 ((12 * p) + o).toNat)
        refine j_iload_n rfl rfl ?_
        refine j_ishr rfl ?_
        have z62_1 := z_ishr_rng (waX m (mi m 137 ((12 * p) + o).toNat)) other
        refine j_iconst rfl ?_
        refine j_iand rfl ?_
        have z64_1 := z_iand_rng (z_ishr (waX m (mi m 137 ((12 * p) + o).toNat)) other) 1
        refine j_iconst rfl ?_
        refine j_icmp_ne (tgt := 76) rfl (by decide) (by omega) (by omega) (by omega) (by omega) (fun hb66_1 => ?_) (fun hb66_1 => ?_)
        · skip
          refine j_iinc rfl rfl (by decide) ?_
          refine j_goto (tgt := 23) rfl (by decide) ?_
          have hu : (orL (swF m p other) o.toNat) = (orL (swF m p other) (o + 1).toNat) := by rw [swF_up ho0]; first | (rw [if_pos (by omega)]; done) | (rw [if_neg (by omega)]; done)
          refine j_loc (ls' := [(0, vR 86), (1, vI p), (2, vI other), (3, vI (orL (swF m p other) (o + 1).toNat)), (4, vI (o + 1))]) (by rw [← hu]; rfl) ?_
          exact ih (o + 1) (by omega) (by omega)
        · skip
          refine j_iload_n rfl rfl ?_
          refine j_iconst rfl ?_
          refine j_iload rfl rfl ?_
          refine j_ishl rfl ?_
          have z73_1 := z_ishl_rng 1 o
          refine j_ior rfl ?_
          have z74_1 := z_ior_rng (orL (swF m p other) o.toNat) (z_ishl 1 o)
          refine j_istore_n rfl (by decide) ?_
          refine j_iinc rfl rfl (by decide) ?_
          refine j_goto (tgt := 23) rfl (by decide) ?_
          have hu : z_ior (orL (swF m p other) o.toNat) (z_ishl 1 o) = (orL (swF m p other) (o + 1).toNat) := by rw [swF_up ho0]; first | (rw [if_pos (by omega)]; done) | (rw [if_neg (by omega)]; done)
          refine j_loc (ls' := [(0, vR 86), (1, vI p), (2, vI other), (3, vI (orL (swF m p other) (o + 1).toNat)), (4, vI (o + 1))]) (by rw [← hu]; rfl) ?_
          exact ih (o + 1) (by omega) (by omega)

theorem ct_X12_saw {G : QW} {m : AM} {p other : Int} (hS : St m) (hI : IM m) (hp1 : -2147483648 ≤ p) (hp2 : p < 2147483648) (hother1 : -2147483648 ≤ other) (hother2 : other < 2147483648) : qM G mX12_saw 2 0 0 [vR 86, vI p, vI other] m (fun r m' => r = some (vI (sawR m p other)) ∧ m' = m) := by
  refine qM.intro okX12_saw (Nat.le_of_ble_eq_true rfl) ?_
  have hpp := hI.s 86 70 0 20 (by decide)
  refine j_aload_n rfl rfl ?_
  refine j_iload_n rfl rfl ?_
  refine j_callV (ci := 12) rfl okX12_isPaper c_X12_461 (ct_X12_isPaper hS hI (by omega) (by omega)) rfl rfl (hS.lt (by decide)) (hS.k (by decide) (by decide)) (by decide) rfl (Nat.le_of_ble_eq_true rfl) (by decide) (by decide) ?_
  rintro vq mq ⟨e1, e2⟩
  rw [e1, e2]
  clear e1 e2
  simp only [Option.toList_some, Option.toList_none, List.cons_append, List.nil_append]
  have w1 := hI.s 86 70 (0) 20 (by decide)
  refine j_bif_eq (tgt := 16) rfl (by decide) (fun hb5_1 => ?_) (fun hb5_1 => ?_)
  · skip
    refine j_iconst rfl ?_
    refine j_iret rfl rfl ?_ rfl (Nat.le_refl _)
    exact ⟨by unfold sawR; rw [if_neg (by omega)], rfl⟩
  · skip
    refine j_aload_n rfl rfl ?_
    refine j_iload_n rfl rfl ?_
    refine j_callV (ci := 12) rfl okX12_isPaper c_X12_461 (ct_X12_isPaper hS hI (by omega) (by omega)) rfl rfl (hS.lt (by decide)) (hS.k (by decide) (by decide)) (by decide) rfl (Nat.le_of_ble_eq_true rfl) (by decide) (by decide) ?_
    rintro vq mq ⟨e1, e2⟩
    rw [e1, e2]
    clear e1 e2
    simp only [Option.toList_some, Option.toList_none, List.cons_append, List.nil_append]
    have w2 := hI.s 86 70 (0) 20 (by decide)
    refine j_bif_ne (tgt := 18) rfl (by decide) (fun hb13_1 => ?_) (fun hb13_1 => ?_)
    · skip
      refine j_iconst rfl ?_
      refine j_istore_n rfl (by decide) ?_
      refine j_iconst rfl ?_
      refine j_istore rfl (by decide) ?_
      refine j_loc (ls' := [(0, vR 86), (1, vI p), (2, vI other), (3, vI 0), (4, vI 0)]) rfl ?_
      exact lp_saw_23 hS hI (by omega) (by omega) ⟨by unfold sawR; rw [if_pos (by omega)], rfl⟩ 12 0 (by decide) (by decide)
    · skip
      refine j_iconst rfl ?_
      refine j_iret rfl rfl ?_ rfl (Nat.le_refl _)
      exact ⟨by unfold sawR; rw [if_neg (by omega)], rfl⟩


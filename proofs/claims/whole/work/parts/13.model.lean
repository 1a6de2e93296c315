def FX12_bits (m : AM) (b : Int) (s : Int) (v : Int) : Int × AM :=
  if 0 ≤ b ∧ b < mi m 86 1 then
    if 0 ≤ s ∧ s ≤ 7 then
      if 2 ≤ v ∧ v ≤ 20 then
        (mi m 88 ((8 * b) + s).toNat, (si m 88 ((8 * b) + s).toNat v))
      else
        ((-1), m)
    else
      ((-1), m)
  else
    ((-1), m)
set_option maxRecDepth 20000 in
set_option maxHeartbeats 4000000 in
theorem ct_X12_bits {G : QW} {m : AM} (hS : St m) {b : Int} {s : Int} {v : Int} (hb1 : -2147483648 ≤ b) (hb2 : b < 2147483648) (hs1 : -2147483648 ≤ s) (hs2 : s < 2147483648) (hv1 : -2147483648 ≤ v) (hv2 : v < 2147483648) (h3 : 0 ≤ mi m 86 1) (h4 : mi m 86 1 ≤ 6) : qM G mX12_bits 2 0 0 [vR 86, vI b, vI s, vI v] m (fun r m' => r = some (vI (FX12_bits m b s v).1) ∧ m' = (FX12_bits m b s v).2) := by
  refine qM.intro okX12_bits (Nat.le_of_ble_eq_true rfl) ?_
  refine j_aload_n rfl rfl ?_
  refine j_iload_n rfl rfl ?_
  refine j_callV (ci := 12) rfl okX12_isBox c_X12_198 (ct_X12_isBox hS (by omega) (by omega) (by omega) (by omega)) rfl rfl (hS.lt (by decide)) (hS.k (by decide) (by decide)) (by decide) rfl (by decide) (by decide) (by decide) ?_
  rintro v m1 ⟨e1, e2⟩
  rw [e1, e2]
  clear e1 e2
  simp only [Option.toList_some, Option.toList_none, List.cons_append, List.nil_append]
  refine j_bif_eq (tgt := 28) rfl (by decide) (fun hb5_1 => ?_) (fun hb5_1 => ?_)
  · skip
    refine j_iconst rfl ?_
    refine j_iret rfl rfl ?_ rfl (Nat.le_refl _)
    unfold FX12_bits
    rw [if_neg hb5_1]
    exact ⟨rfl, rfl⟩
  · skip
    refine j_iload_n rfl rfl ?_
    refine j_iconst rfl ?_
    refine j_bipush rfl (by decide) ?_
    refine j_callS (As := [_, _, _]) rfl okX12_in c_X12_194 (ct_X12_in (by omega) (by omega) (by omega) (by omega) (by omega) (by omega)) rfl rfl (by decide) (by decide) (by decide) ?_
    rintro v m1 ⟨e1, e2⟩
    rw [e1, e2]
    clear e1 e2
    simp only [Option.toList_some, Option.toList_none, List.cons_append, List.nil_append]
    refine j_bif_eq (tgt := 28) rfl (by decide) (fun hb15_1 => ?_) (fun hb15_1 => ?_)
    · skip
      refine j_iconst rfl ?_
      refine j_iret rfl rfl ?_ rfl (Nat.le_refl _)
      unfold FX12_bits
      rw [if_pos hb5_1, if_neg hb15_1]
      exact ⟨rfl, rfl⟩
    · skip
      refine j_iload_n rfl rfl ?_
      refine j_iconst rfl ?_
      refine j_bipush rfl (by decide) ?_
      refine j_callS (As := [_, _, _]) rfl okX12_in c_X12_194 (ct_X12_in (by omega) (by omega) (by omega) (by omega) (by omega) (by omega)) rfl rfl (by decide) (by decide) (by decide) ?_
      rintro v m1 ⟨e1, e2⟩
      rw [e1, e2]
      clear e1 e2
      simp only [Option.toList_some, Option.toList_none, List.cons_append, List.nil_append]
      refine j_bif_ne (tgt := 30) rfl (by decide) (fun hb25_1 => ?_) (fun hb25_1 => ?_)
      · skip
        refine j_aload_n rfl rfl ?_
        refine j_getR (q := 88) rfl f_X12_13 rfl (hS.lt (by decide)) (hS.k (by decide) (by decide)) (hS.r (by decide)) ?_
        refine j_bipush rfl (by decide) ?_
        refine j_iload_n rfl rfl ?_
        refine j_imul rfl ?_
        refine j_iload_n rfl rfl ?_
        refine j_iadd rfl ?_
        refine j_iald (n := 48) rfl (hS.lt (by decide)) (hS.k (by decide) (by decide)) (hS.n (by decide) (by decide)) (by omega) (by omega) (by decide) ?_
        have u40_1 := mi_rng m 88 ((8 * b) + s).toNat
        refine j_istore rfl (by decide) ?_
        refine j_aload_n rfl rfl ?_
        refine j_getR (q := 88) rfl f_X12_13 rfl (hS.lt (by decide)) (hS.k (by decide) (by decide)) (hS.r (by decide)) ?_
        refine j_bipush rfl (by decide) ?_
        refine j_iload_n rfl rfl ?_
        refine j_imul rfl ?_
        refine j_iload_n rfl rfl ?_
        refine j_iadd rfl ?_
        refine j_iload_n rfl rfl ?_
        refine j_iast (n := 48) rfl (hS.lt (by decide)) (hS.k (by decide) (by decide)) (hS.n (by decide) (by decide)) (by omega) (by omega) (by decide) ?_
        refine j_iload rfl rfl ?_
        refine j_iret rfl rfl ?_ rfl (Nat.le_refl _)
        unfold FX12_bits
        rw [if_pos hb5_1, if_pos hb15_1, if_pos hb25_1]
        exact ⟨rfl, rfl⟩
      · skip
        refine j_iconst rfl ?_
        refine j_iret rfl rfl ?_ rfl (Nat.le_refl _)
        unfold FX12_bits
        rw [if_pos hb5_1, if_pos hb15_1, if_neg hb25_1]
        exact ⟨rfl, rfl⟩

def FX12_wire (m : AM) (b : Int) (i : Int) (fr0 : Int) (port : Int) : Int × AM :=
  if 0 ≤ b ∧ b < mi m 86 1 then
    if 0 ≤ i ∧ i ≤ 3 then
      if fr0 = (-1) then
        if fr0 ≥ 0 then
          (mi m 89 ((4 * b) + i).toNat, (si m 89 ((4 * b) + i).toNat ((10 * fr0) + port)))
        else
          (mi m 89 ((4 * b) + i).toNat, (si m 89 ((4 * b) + i).toNat (-1)))
      else
        if 0 ≤ fr0 ∧ fr0 < mi m 86 1 then
          if 0 ≤ port ∧ port ≤ 3 then
            if fr0 ≥ 0 then
              (mi m 89 ((4 * b) + i).toNat, (si m 89 ((4 * b) + i).toNat ((10 * fr0) + port)))
            else
              (mi m 89 ((4 * b) + i).toNat, (si m 89 ((4 * b) + i).toNat (-1)))
          else
            ((-2000000000), m)
        else
          ((-2000000000), m)
    else
      ((-2000000000), m)
  else
    ((-2000000000), m)
set_option maxRecDepth 20000 in
set_option maxHeartbeats 4000000 in
theorem ct_X12_wire {G : QW} {m : AM} (hS : St m) {b : Int} {i : Int} {fr0 : Int} {port : Int} (hb1 : -2147483648 ≤ b) (hb2 : b < 2147483648) (hi1 : -2147483648 ≤ i) (hi2 : i < 2147483648) (hfr01 : -2147483648 ≤ fr0) (hfr02 : fr0 < 2147483648) (hport1 : -2147483648 ≤ port) (hport2 : port < 2147483648) (h3 : 0 ≤ mi m 86 1) (h4 : mi m 86 1 ≤ 6) : qM G mX12_wire 2 0 0 [vR 86, vI b, vI i, vI fr0, vI port] m (fun r m' => r = some (vI (FX12_wire m b i fr0 port).1) ∧ m' = (FX12_wire m b i fr0 port).2) := by
  refine qM.intro okX12_wire (Nat.le_of_ble_eq_true rfl) ?_
  refine j_aload_n rfl rfl ?_
  refine j_iload_n rfl rfl ?_
  refine j_callV (ci := 12) rfl okX12_isBox c_X12_198 (ct_X12_isBox hS (by omega) (by omega) (by omega) (by omega)) rfl rfl (hS.lt (by decide)) (hS.k (by decide) (by decide)) (by decide) rfl (by decide) (by decide) (by decide) ?_
  rintro v m1 ⟨e1, e2⟩
  rw [e1, e2]
  clear e1 e2
  simp only [Option.toList_some, Option.toList_none, List.cons_append, List.nil_append]
  refine j_bif_eq (tgt := 40) rfl (by decide) (fun hb5_1 => ?_) (fun hb5_1 => ?_)
  · skip
    refine j_ldc (v := -2000000000) rfl k_X12_202 ?_
    refine j_iret rfl rfl ?_ rfl (Nat.le_refl _)
    unfold FX12_wire
    rw [if_neg hb5_1]
    exact ⟨rfl, rfl⟩
  · skip
    refine j_iload_n rfl rfl ?_
    refine j_iconst rfl ?_
    refine j_iconst rfl ?_
    refine j_callS (As := [_, _, _]) rfl okX12_in c_X12_194 (ct_X12_in (by omega) (by omega) (by omega) (by omega) (by omega) (by omega)) rfl rfl (by decide) (by decide) (by decide) ?_
    rintro v m1 ⟨e1, e2⟩
    rw [e1, e2]
    clear e1 e2
    simp only [Option.toList_some, Option.toList_none, List.cons_append, List.nil_append]
    refine j_bif_eq (tgt := 40) rfl (by decide) (fun hb14_1 => ?_) (fun hb14_1 => ?_)
    · skip
      refine j_ldc (v := -2000000000) rfl k_X12_202 ?_
      refine j_iret rfl rfl ?_ rfl (Nat.le_refl _)
      unfold FX12_wire
      rw [if_pos hb5_1, if_neg hb14_1]
      exact ⟨rfl, rfl⟩
    · skip
      refine j_iload_n rfl rfl ?_
      refine j_iconst rfl ?_
      refine j_icmp_eq (tgt := 43) rfl (by decide) (by omega) (by omega) (by omega) (by omega) (fun hb19_1 => ?_) (fun hb19_1 => ?_)
      · skip
        refine j_aload_n rfl rfl ?_
        refine j_getR (q := 89) rfl f_X12_16 rfl (hS.lt (by decide)) (hS.k (by decide) (by decide)) (hS.r (by decide)) ?_
        refine j_iconst rfl ?_
        refine j_iload_n rfl rfl ?_
        refine j_imul rfl ?_
        refine j_iload_n rfl rfl ?_
        refine j_iadd rfl ?_
        refine j_iald (n := 24) rfl (hS.lt (by decide)) (hS.k (by decide) (by decide)) (hS.n (by decide) (by decide)) (by omega) (by omega) (by decide) ?_
        have u52_1 := mi_rng m 89 ((4 * b) + i).toNat
        refine j_istore rfl (by decide) ?_
        refine j_aload_n rfl rfl ?_
        refine j_getR (q := 89) rfl f_X12_16 rfl (hS.lt (by decide)) (hS.k (by decide) (by decide)) (hS.r (by decide)) ?_
        refine j_iconst rfl ?_
        refine j_iload_n rfl rfl ?_
        refine j_imul rfl ?_
        refine j_iload_n rfl rfl ?_
        refine j_iadd rfl ?_
        refine j_iload_n rfl rfl ?_
        refine j_if_ge (tgt := 72) rfl (by decide) (by omega) (by omega) (fun hb65_1 => ?_) (fun hb65_1 => ?_)
        · skip
          refine j_bipush rfl (by decide) ?_
          refine j_iload_n rfl rfl ?_
          refine j_imul rfl ?_
          refine j_iload rfl rfl ?_
          refine j_iadd rfl ?_
          refine j_iast (n := 24) rfl (hS.lt (by decide)) (hS.k (by decide) (by decide)) (hS.n (by decide) (by decide)) (by omega) (by omega) (by decide) ?_
          refine j_iload rfl rfl ?_
          refine j_iret rfl rfl ?_ rfl (Nat.le_refl _)
          unfold FX12_wire
          rw [if_pos hb5_1, if_pos hb14_1, if_pos hb19_1, if_pos hb65_1]
          exact ⟨rfl, rfl⟩
        · skip
          refine j_iconst rfl ?_
          refine j_goto (tgt := 79) rfl (by decide) ?_
          refine j_iast (n := 24) rfl (hS.lt (by decide)) (hS.k (by decide) (by decide)) (hS.n (by decide) (by decide)) (by omega) (by omega) (by decide) ?_
          refine j_iload rfl rfl ?_
          refine j_iret rfl rfl ?_ rfl (Nat.le_refl _)
          unfold FX12_wire
          rw [if_pos hb5_1, if_pos hb14_1, if_pos hb19_1, if_neg hb65_1]
          exact ⟨rfl, rfl⟩
      · skip
        refine j_aload_n rfl rfl ?_
        refine j_iload_n rfl rfl ?_
        refine j_callV (ci := 12) rfl okX12_isBox c_X12_198 (ct_X12_isBox hS (by omega) (by omega) (by omega) (by omega)) rfl rfl (hS.lt (by decide)) (hS.k (by decide) (by decide)) (by decide) rfl (by decide) (by decide) (by decide) ?_
        rintro v m1 ⟨e1, e2⟩
        rw [e1, e2]
        clear e1 e2
        simp only [Option.toList_some, Option.toList_none, List.cons_append, List.nil_append]
        refine j_bif_eq (tgt := 40) rfl (by decide) (fun hb27_1 => ?_) (fun hb27_1 => ?_)
        · skip
          refine j_ldc (v := -2000000000) rfl k_X12_202 ?_
          refine j_iret rfl rfl ?_ rfl (Nat.le_refl _)
          unfold FX12_wire
          rw [if_pos hb5_1, if_pos hb14_1, if_neg hb19_1, if_neg hb27_1]
          exact ⟨rfl, rfl⟩
        · skip
          refine j_iload rfl rfl ?_
          refine j_iconst rfl ?_
          refine j_iconst rfl ?_
          refine j_callS (As := [_, _, _]) rfl okX12_in c_X12_194 (ct_X12_in (by omega) (by omega) (by omega) (by omega) (by omega) (by omega)) rfl rfl (by decide) (by decide) (by decide) ?_
          rintro v m1 ⟨e1, e2⟩
          rw [e1, e2]
          clear e1 e2
          simp only [Option.toList_some, Option.toList_none, List.cons_append, List.nil_append]
          refine j_bif_ne (tgt := 43) rfl (by decide) (fun hb37_1 => ?_) (fun hb37_1 => ?_)
          · skip
            refine j_aload_n rfl rfl ?_
            refine j_getR (q := 89) rfl f_X12_16 rfl (hS.lt (by decide)) (hS.k (by decide) (by decide)) (hS.r (by decide)) ?_
            refine j_iconst rfl ?_
            refine j_iload_n rfl rfl ?_
            refine j_imul rfl ?_
            refine j_iload_n rfl rfl ?_
            refine j_iadd rfl ?_
            refine j_iald (n := 24) rfl (hS.lt (by decide)) (hS.k (by decide) (by decide)) (hS.n (by decide) (by decide)) (by omega) (by omega) (by decide) ?_
            have u52_2 := mi_rng m 89 ((4 * b) + i).toNat
            refine j_istore rfl (by decide) ?_
            refine j_aload_n rfl rfl ?_
            refine j_getR (q := 89) rfl f_X12_16 rfl (hS.lt (by decide)) (hS.k (by decide) (by decide)) (hS.r (by decide)) ?_
            refine j_iconst rfl ?_
            refine j_iload_n rfl rfl ?_
            refine j_imul rfl ?_
            refine j_iload_n rfl rfl ?_
            refine j_iadd rfl ?_
            refine j_iload_n rfl rfl ?_
            refine j_if_ge (tgt := 72) rfl (by decide) (by omega) (by omega) (fun hb65_2 => ?_) (fun hb65_2 => ?_)
            · skip
              refine j_bipush rfl (by decide) ?_
              refine j_iload_n rfl rfl ?_
              refine j_imul rfl ?_
              refine j_iload rfl rfl ?_
              refine j_iadd rfl ?_
              refine j_iast (n := 24) rfl (hS.lt (by decide)) (hS.k (by decide) (by decide)) (hS.n (by decide) (by decide)) (by omega) (by omega) (by decide) ?_
              refine j_iload rfl rfl ?_
              refine j_iret rfl rfl ?_ rfl (Nat.le_refl _)
              unfold FX12_wire
              rw [if_pos hb5_1, if_pos hb14_1, if_neg hb19_1, if_pos hb27_1, if_pos hb37_1, if_pos hb65_2]
              exact ⟨rfl, rfl⟩
            · skip
              refine j_iconst rfl ?_
              refine j_goto (tgt := 79) rfl (by decide) ?_
              refine j_iast (n := 24) rfl (hS.lt (by decide)) (hS.k (by decide) (by decide)) (hS.n (by decide) (by decide)) (by omega) (by omega) (by decide) ?_
              refine j_iload rfl rfl ?_
              refine j_iret rfl rfl ?_ rfl (Nat.le_refl _)
              unfold FX12_wire
              rw [if_pos hb5_1, if_pos hb14_1, if_neg hb19_1, if_pos hb27_1, if_pos hb37_1, if_neg hb65_2]
              exact ⟨rfl, rfl⟩
          · skip
            refine j_ldc (v := -2000000000) rfl k_X12_202 ?_
            refine j_iret rfl rfl ?_ rfl (Nat.le_refl _)
            unfold FX12_wire
            rw [if_pos hb5_1, if_pos hb14_1, if_neg hb19_1, if_pos hb27_1, if_neg hb37_1]
            exact ⟨rfl, rfl⟩

set_option maxRecDepth 20000 in
set_option maxHeartbeats 4000000 in
theorem ct_X12_isFlight {G : QW} {m : AM} (hS : St m) {f : Int} (hf1 : -2147483648 ≤ f) (hf2 : f < 2147483648) (h3 : 0 ≤ mi m 86 21) (h4 : mi m 86 21 ≤ 8) : qM G mX12_isFlight 1 0 0 [vR 86, vI f] m (fun r m' => r = some (vI (if 0 ≤ f ∧ f < mi m 86 21 then 1 else 0)) ∧ m' = m) := by
  refine qM.intro okX12_isFlight (Nat.le_of_ble_eq_true rfl) ?_
  refine j_iload_n rfl rfl ?_
  refine j_iconst rfl ?_
  refine j_aload_n rfl rfl ?_
  refine j_getI rfl f_X12_267 rfl (hS.lt (by decide)) (hS.k (by decide) (by decide)) ?_
  have u3_1 := mi_rng m 86 21
  refine j_iconst rfl ?_
  refine j_isub rfl ?_
  refine j_callS (As := [_, _, _]) rfl okX12_in c_X12_194 (ct_X12_in (by omega) (by omega) (by omega) (by omega) (by omega) (by omega)) rfl rfl (by decide) (by decide) (by decide) ?_
  rintro v m1 ⟨e1, e2⟩
  rw [e1, e2]
  clear e1 e2
  simp only [Option.toList_some, Option.toList_none, List.cons_append, List.nil_append]
  refine j_zret rfl rfl (by split <;> decide) ?_ rfl (Nat.le_refl _)
  exact ⟨congrArg some (congrArg vI (qite (by omega))), rfl⟩

set_option maxRecDepth 20000 in
set_option maxHeartbeats 4000000 in
theorem ct_X12_isPaper {G : QW} {m : AM} (hS : St m) {q : Int} (hq1 : -2147483648 ≤ q) (hq2 : q < 2147483648) (h3 : 0 ≤ mi m 86 70) (h4 : mi m 86 70 ≤ 20) : qM G mX12_isPaper 1 0 0 [vR 86, vI q] m (fun r m' => r = some (vI (if 0 ≤ q ∧ q < mi m 86 70 then 1 else 0)) ∧ m' = m) := by
  refine qM.intro okX12_isPaper (Nat.le_of_ble_eq_true rfl) ?_
  refine j_iload_n rfl rfl ?_
  refine j_iconst rfl ?_
  refine j_aload_n rfl rfl ?_
  refine j_getI rfl f_X12_458 rfl (hS.lt (by decide)) (hS.k (by decide) (by decide)) ?_
  have u3_1 := mi_rng m 86 70
  refine j_iconst rfl ?_
  refine j_isub rfl ?_
  refine j_callS (As := [_, _, _]) rfl okX12_in c_X12_194 (ct_X12_in (by omega) (by omega) (by omega) (by omega) (by omega) (by omega)) rfl rfl (by decide) (by decide) (by decide) ?_
  rintro v m1 ⟨e1, e2⟩
  rw [e1, e2]
  clear e1 e2
  simp only [Option.toList_some, Option.toList_none, List.cons_append, List.nil_append]
  refine j_zret rfl rfl (by split <;> decide) ?_ rfl (Nat.le_refl _)
  exact ⟨congrArg some (congrArg vI (qite (by omega))), rfl⟩

def FX12_trace (m : AM) (i : Int) : Int :=
  if i < 0 then
    (-1)
  else
    if i ≥ (mi m 86 76) then
      (-1)
    else
      if i ≥ 24 then
        (-1)
      else
        mi m 138 i.toNat
set_option maxRecDepth 20000 in
set_option maxHeartbeats 4000000 in
theorem ct_X12_trace {G : QW} {m : AM} (hS : St m) {i : Int} (hi1 : -2147483648 ≤ i) (hi2 : i < 2147483648) (h9 : 0 ≤ mi m 86 76) (h10 : mi m 86 76 < 2147483648) : qM G mX12_trace 0 0 0 [vR 86, vI i] m (fun r m' => r = some (vI (FX12_trace m i)) ∧ m' = m) := by
  refine qM.intro okX12_trace (Nat.le_of_ble_eq_true rfl) ?_
  refine j_iload_n rfl rfl ?_
  refine j_if_lt (tgt := 27) rfl (by decide) (by omega) (by omega) (fun hb1_1 => ?_) (fun hb1_1 => ?_)
  · skip
    refine j_iconst rfl ?_
    refine j_iret rfl rfl ?_ rfl (Nat.le_refl _)
    unfold FX12_trace
    rw [if_pos hb1_1]
    exact ⟨rfl, rfl⟩
  · skip
    refine j_iload_n rfl rfl ?_
    refine j_aload_n rfl rfl ?_
    refine j_getI rfl f_X12_478 rfl (hS.lt (by decide)) (hS.k (by decide) (by decide)) ?_
    have u6_1 := mi_rng m 86 76
    refine j_icmp_ge (tgt := 27) rfl (by decide) (by omega) (by omega) (by omega) (by omega) (fun hb9_1 => ?_) (fun hb9_1 => ?_)
    · skip
      refine j_iconst rfl ?_
      refine j_iret rfl rfl ?_ rfl (Nat.le_refl _)
      unfold FX12_trace
      rw [if_neg hb1_1, if_pos hb9_1]
      exact ⟨rfl, rfl⟩
    · skip
      refine j_iload_n rfl rfl ?_
      refine j_bipush rfl (by decide) ?_
      refine j_icmp_ge (tgt := 27) rfl (by decide) (by omega) (by omega) (by omega) (by omega) (fun hb15_1 => ?_) (fun hb15_1 => ?_)
      · skip
        refine j_iconst rfl ?_
        refine j_iret rfl rfl ?_ rfl (Nat.le_refl _)
        unfold FX12_trace
        rw [if_neg hb1_1, if_neg hb9_1, if_pos hb15_1]
        exact ⟨rfl, rfl⟩
      · skip
        refine j_aload_n rfl rfl ?_
        refine j_getR (q := 138) rfl f_X12_166 rfl (hS.lt (by decide)) (hS.k (by decide) (by decide)) (hS.r (by decide)) ?_
        refine j_iload_n rfl rfl ?_
        refine j_iald (n := 24) rfl (hS.lt (by decide)) (hS.k (by decide) (by decide)) (hS.n (by decide) (by decide)) (by omega) (by omega) (by decide) ?_
        have u23_1 := mi_rng m 138 i.toNat
        refine j_goto (tgt := 28) rfl (by decide) ?_
        refine j_iret rfl rfl ?_ rfl (Nat.le_refl _)
        unfold FX12_trace
        rw [if_neg hb1_1, if_neg hb9_1, if_neg hb15_1]
        exact ⟨rfl, rfl⟩

def FX12_count (m : AM) (what : Int) : Int :=
  if what = 0 then
    mi m 86 1
  else
    if what = 1 then
      mi m 86 21
    else
      if what = 2 then
        mi m 86 70
      else
        if what = 3 then
          mi m 86 16
        else
          if what = 4 then
            mi m 86 76
          else
            (-1)
set_option maxRecDepth 20000 in
set_option maxHeartbeats 4000000 in
theorem ct_X12_count {G : QW} {m : AM} (hS : St m) {what : Int} (hwhat1 : -2147483648 ≤ what) (hwhat2 : what < 2147483648) : qM G mX12_count 0 0 0 [vR 86, vI what] m (fun r m' => r = some (vI (FX12_count m what)) ∧ m' = m) := by
  refine qM.intro okX12_count (Nat.le_of_ble_eq_true rfl) ?_
  refine j_iload_n rfl rfl ?_
  by_cases hs1_1_0 : what = 0
  · skip
    refine j_tableIn (tgt := 36) rfl (by omega) (by omega) (by omega) (by omega) (by rw [hs1_1_0]; rfl) (by decide) ?_
    refine j_aload_n rfl rfl ?_
    refine j_getI rfl f_X12_191 rfl (hS.lt (by decide)) (hS.k (by decide) (by decide)) ?_
    have u37_1 := mi_rng m 86 1
    refine j_iret rfl rfl ?_ rfl (Nat.le_refl _)
    unfold FX12_count
    rw [if_pos hs1_1_0]
    exact ⟨rfl, rfl⟩
  · skip
    by_cases hs1_1_1 : what = 1
    · skip
      refine j_tableIn (tgt := 41) rfl (by omega) (by omega) (by omega) (by omega) (by rw [hs1_1_1]; rfl) (by decide) ?_
      refine j_aload_n rfl rfl ?_
      refine j_getI rfl f_X12_267 rfl (hS.lt (by decide)) (hS.k (by decide) (by decide)) ?_
      have u42_1 := mi_rng m 86 21
      refine j_iret rfl rfl ?_ rfl (Nat.le_refl _)
      unfold FX12_count
      rw [if_neg hs1_1_0, if_pos hs1_1_1]
      exact ⟨rfl, rfl⟩
    · skip
      by_cases hs1_1_2 : what = 2
      · skip
        refine j_tableIn (tgt := 46) rfl (by omega) (by omega) (by omega) (by omega) (by rw [hs1_1_2]; rfl) (by decide) ?_
        refine j_aload_n rfl rfl ?_
        refine j_getI rfl f_X12_458 rfl (hS.lt (by decide)) (hS.k (by decide) (by decide)) ?_
        have u47_1 := mi_rng m 86 70
        refine j_iret rfl rfl ?_ rfl (Nat.le_refl _)
        unfold FX12_count
        rw [if_neg hs1_1_0, if_neg hs1_1_1, if_pos hs1_1_2]
        exact ⟨rfl, rfl⟩
      · skip
        by_cases hs1_1_3 : what = 3
        · skip
          refine j_tableIn (tgt := 51) rfl (by omega) (by omega) (by omega) (by omega) (by rw [hs1_1_3]; rfl) (by decide) ?_
          refine j_aload_n rfl rfl ?_
          refine j_getI rfl f_X12_207 rfl (hS.lt (by decide)) (hS.k (by decide) (by decide)) ?_
          have u52_1 := mi_rng m 86 16
          refine j_iret rfl rfl ?_ rfl (Nat.le_refl _)
          unfold FX12_count
          rw [if_neg hs1_1_0, if_neg hs1_1_1, if_neg hs1_1_2, if_pos hs1_1_3]
          exact ⟨rfl, rfl⟩
        · skip
          by_cases hs1_1_4 : what = 4
          · skip
            refine j_tableIn (tgt := 56) rfl (by omega) (by omega) (by omega) (by omega) (by rw [hs1_1_4]; rfl) (by decide) ?_
            refine j_aload_n rfl rfl ?_
            refine j_getI rfl f_X12_478 rfl (hS.lt (by decide)) (hS.k (by decide) (by decide)) ?_
            have u57_1 := mi_rng m 86 76
            refine j_iret rfl rfl ?_ rfl (Nat.le_refl _)
            unfold FX12_count
            rw [if_neg hs1_1_0, if_neg hs1_1_1, if_neg hs1_1_2, if_neg hs1_1_3, if_pos hs1_1_4]
            exact ⟨rfl, rfl⟩
          · skip
            refine j_tableOut (tgt := 61) rfl (by omega) (by omega) (by omega) (by decide) ?_
            refine j_iconst rfl ?_
            refine j_iret rfl rfl ?_ rfl (Nat.le_refl _)
            unfold FX12_count
            rw [if_neg hs1_1_0, if_neg hs1_1_1, if_neg hs1_1_2, if_neg hs1_1_3, if_neg hs1_1_4]
            exact ⟨rfl, rfl⟩

def FX12_twin (m : AM) (t : Int) (b : Int) : Int × AM :=
  if 0 ≤ t ∧ t < mi m 86 1 then
    if (mi m 87 t.toNat) ≠ 1 then
      ((-1), m)
    else
      if 0 ≤ b ∧ b < mi m 86 1 then
        if t ≠ b then
          (1, (si m 90 t.toNat b))
        else
          ((-1), m)
      else
        ((-1), m)
  else
    ((-1), m)
set_option maxRecDepth 20000 in
set_option maxHeartbeats 4000000 in
theorem ct_X12_twin {G : QW} {m : AM} (hS : St m) {t : Int} {b : Int} (ht1 : -2147483648 ≤ t) (ht2 : t < 2147483648) (hb1 : -2147483648 ≤ b) (hb2 : b < 2147483648) (h3 : 0 ≤ mi m 86 1) (h4 : mi m 86 1 ≤ 6) : qM G mX12_twin 2 0 0 [vR 86, vI t, vI b] m (fun r m' => r = some (vI (FX12_twin m t b).1) ∧ m' = (FX12_twin m t b).2) := by
  refine qM.intro okX12_twin (Nat.le_of_ble_eq_true rfl) ?_
  refine j_aload_n rfl rfl ?_
  refine j_iload_n rfl rfl ?_
  refine j_callV (ci := 12) rfl okX12_isBox c_X12_198 (ct_X12_isBox hS (by omega) (by omega) (by omega) (by omega)) rfl rfl (hS.lt (by decide)) (hS.k (by decide) (by decide)) (by decide) rfl (by decide) (by decide) (by decide) ?_
  rintro v m1 ⟨e1, e2⟩
  rw [e1, e2]
  clear e1 e2
  simp only [Option.toList_some, Option.toList_none, List.cons_append, List.nil_append]
  refine j_bif_eq (tgt := 31) rfl (by decide) (fun hb5_1 => ?_) (fun hb5_1 => ?_)
  · skip
    refine j_iconst rfl ?_
    refine j_iret rfl rfl ?_ rfl (Nat.le_refl _)
    unfold FX12_twin
    rw [if_neg hb5_1]
    exact ⟨rfl, rfl⟩
  · skip
    refine j_aload_n rfl rfl ?_
    refine j_getR (q := 87) rfl f_X12_7 rfl (hS.lt (by decide)) (hS.k (by decide) (by decide)) (hS.r (by decide)) ?_
    refine j_iload_n rfl rfl ?_
    refine j_iald (n := 6) rfl (hS.lt (by decide)) (hS.k (by decide) (by decide)) (hS.n (by decide) (by decide)) (by omega) (by omega) (by decide) ?_
    have u13_1 := mi_rng m 87 t.toNat
    refine j_iconst rfl ?_
    refine j_icmp_ne (tgt := 31) rfl (by decide) (by omega) (by omega) (by omega) (by omega) (fun hb15_1 => ?_) (fun hb15_1 => ?_)
    · skip
      refine j_iconst rfl ?_
      refine j_iret rfl rfl ?_ rfl (Nat.le_refl _)
      unfold FX12_twin
      rw [if_pos hb5_1, if_pos hb15_1]
      exact ⟨rfl, rfl⟩
    · skip
      refine j_aload_n rfl rfl ?_
      refine j_iload_n rfl rfl ?_
      refine j_callV (ci := 12) rfl okX12_isBox c_X12_198 (ct_X12_isBox hS (by omega) (by omega) (by omega) (by omega)) rfl rfl (hS.lt (by decide)) (hS.k (by decide) (by decide)) (by decide) rfl (by decide) (by decide) (by decide) ?_
      rintro v m1 ⟨e1, e2⟩
      rw [e1, e2]
      clear e1 e2
      simp only [Option.toList_some, Option.toList_none, List.cons_append, List.nil_append]
      refine j_bif_eq (tgt := 31) rfl (by decide) (fun hb23_1 => ?_) (fun hb23_1 => ?_)
      · skip
        refine j_iconst rfl ?_
        refine j_iret rfl rfl ?_ rfl (Nat.le_refl _)
        unfold FX12_twin
        rw [if_pos hb5_1, if_neg (not_not_intro hb15_1), if_neg hb23_1]
        exact ⟨rfl, rfl⟩
      · skip
        refine j_iload_n rfl rfl ?_
        refine j_iload_n rfl rfl ?_
        refine j_icmp_ne (tgt := 33) rfl (by decide) (by omega) (by omega) (by omega) (by omega) (fun hb28_1 => ?_) (fun hb28_1 => ?_)
        · skip
          refine j_aload_n rfl rfl ?_
          refine j_getR (q := 90) rfl f_X12_19 rfl (hS.lt (by decide)) (hS.k (by decide) (by decide)) (hS.r (by decide)) ?_
          refine j_iload_n rfl rfl ?_
          refine j_iload_n rfl rfl ?_
          refine j_iast (n := 6) rfl (hS.lt (by decide)) (hS.k (by decide) (by decide)) (hS.n (by decide) (by decide)) (by omega) (by omega) (by decide) ?_
          refine j_iconst rfl ?_
          refine j_iret rfl rfl ?_ rfl (Nat.le_refl _)
          unfold FX12_twin
          rw [if_pos hb5_1, if_neg (not_not_intro hb15_1), if_pos hb23_1, if_pos hb28_1]
          exact ⟨rfl, rfl⟩
        · skip
          refine j_iconst rfl ?_
          refine j_iret rfl rfl ?_ rfl (Nat.le_refl _)
          unfold FX12_twin
          rw [if_pos hb5_1, if_neg (not_not_intro hb15_1), if_pos hb23_1, if_neg (not_not_intro hb28_1)]
          exact ⟨rfl, rfl⟩

set_option maxRecDepth 20000 in
set_option maxHeartbeats 4000000 in
theorem ct_X12_isLine {G : QW} {m : AM} (hS : St m) {b : Int} {l : Int} (hb1 : -2147483648 ≤ b) (hb2 : b < 2147483648) (hl1 : -2147483648 ≤ l) (hl2 : l < 2147483648) (h3 : 0 ≤ mi m 86 1) (h4 : mi m 86 1 ≤ 6) (hl : ∀ j, 0 ≤ mi m 91 j ∧ mi m 91 j ≤ 12) : qM G mX12_isLine 2 0 0 [vR 86, vI b, vI l] m (fun r m' => r = some (vI (if (0 ≤ b ∧ b < mi m 86 1) ∧ 0 ≤ l ∧ l < mi m 91 b.toNat then 1 else 0)) ∧ m' = m) := by
  refine qM.intro okX12_isLine (Nat.le_of_ble_eq_true rfl) ?_
  have hl1 := hl b.toNat
  refine j_aload_n rfl rfl ?_
  refine j_iload_n rfl rfl ?_
  refine j_callV (ci := 12) rfl okX12_isBox c_X12_198 (ct_X12_isBox hS (by omega) (by omega) (by omega) (by omega)) rfl rfl (hS.lt (by decide)) (hS.k (by decide) (by decide)) (by decide) rfl (by decide) (by decide) (by decide) ?_
  rintro v m1 ⟨e1, e2⟩
  rw [e1, e2]
  clear e1 e2
  simp only [Option.toList_some, Option.toList_none, List.cons_append, List.nil_append]
  refine j_bif_eq (tgt := 28) rfl (by decide) (fun hb5_1 => ?_) (fun hb5_1 => ?_)
  · skip
    refine j_iconst rfl ?_
    refine j_zret rfl rfl (by decide) ?_ rfl (Nat.le_refl _)
    exact ⟨by first | rw [if_pos (by omega)] | rw [if_neg (by omega)], rfl⟩
  · skip
    refine j_iload_n rfl rfl ?_
    refine j_iconst rfl ?_
    refine j_aload_n rfl rfl ?_
    refine j_getR (q := 91) rfl f_X12_22 rfl (hS.lt (by decide)) (hS.k (by decide) (by decide)) (hS.r (by decide)) ?_
    refine j_iload_n rfl rfl ?_
    refine j_iald (n := 7) rfl (hS.lt (by decide)) (hS.k (by decide) (by decide)) (hS.n (by decide) (by decide)) (by omega) (by omega) (by decide) ?_
    have u15_1 := mi_rng m 91 b.toNat
    refine j_iconst rfl ?_
    refine j_isub rfl ?_
    refine j_callS (As := [_, _, _]) rfl okX12_in c_X12_194 (ct_X12_in (by omega) (by omega) (by omega) (by omega) (by omega) (by omega)) rfl rfl (by decide) (by decide) (by decide) ?_
    rintro v m1 ⟨e1, e2⟩
    rw [e1, e2]
    clear e1 e2
    simp only [Option.toList_some, Option.toList_none, List.cons_append, List.nil_append]
    refine j_bif_eq (tgt := 28) rfl (by decide) (fun hb21_1 => ?_) (fun hb21_1 => ?_)
    · skip
      refine j_iconst rfl ?_
      refine j_zret rfl rfl (by decide) ?_ rfl (Nat.le_refl _)
      exact ⟨by first | rw [if_pos (by omega)] | rw [if_neg (by omega)], rfl⟩
    · skip
      refine j_iconst rfl ?_
      refine j_goto (tgt := 29) rfl (by decide) ?_
      refine j_zret rfl rfl (by decide) ?_ rfl (Nat.le_refl _)
      exact ⟨by first | rw [if_pos (by omega)] | rw [if_neg (by omega)], rfl⟩

def FX12_line (m : AM) (b : Int) (l : Int) (what : Int) : Int :=
  if (0 ≤ b ∧ b < mi m 86 1) ∧ 0 ≤ l ∧ l < mi m 91 b.toNat then
    if what = 0 then
      if (mi m 92 ((12 * b) + l).toNat) = 0 then
        0
      else
        1
    else
      if what = 1 then
        if (mi m 96 ((12 * b) + l).toNat) ≤ (mi m 95 ((12 * b) + l).toNat) then
          0
        else
          1
      else
        if what = 2 then
          if (mi m 93 ((12 * b) + l).toNat) = 0 then
            0
          else
            1
        else
          if what = 3 then
            mi m 94 ((12 * b) + l).toNat
          else
            (-1)
  else
    (-1)
set_option maxRecDepth 20000 in
set_option maxHeartbeats 4000000 in
theorem ct_X12_line {G : QW} {m : AM} (hS : St m) {b : Int} {l : Int} {what : Int} (hb1 : -2147483648 ≤ b) (hb2 : b < 2147483648) (hl1 : -2147483648 ≤ l) (hl2 : l < 2147483648) (hwhat1 : -2147483648 ≤ what) (hwhat2 : what < 2147483648) (h3 : 0 ≤ mi m 86 1) (h4 : mi m 86 1 ≤ 6) (hl : ∀ j, 0 ≤ mi m 91 j ∧ mi m 91 j ≤ 12) : qM G mX12_line 3 0 0 [vR 86, vI b, vI l, vI what] m (fun r m' => r = some (vI (FX12_line m b l what)) ∧ m' = m) := by
  refine qM.intro okX12_line (Nat.le_of_ble_eq_true rfl) ?_
  refine j_aload_n rfl rfl ?_
  refine j_iload_n rfl rfl ?_
  refine j_iload_n rfl rfl ?_
  refine j_callV (ci := 12) rfl okX12_isLine c_X12_203 (ct_X12_isLine hS (by omega) (by omega) (by omega) (by omega) (by omega) (by omega) hl) rfl rfl (hS.lt (by decide)) (hS.k (by decide) (by decide)) (by decide) rfl (by decide) (by decide) (by decide) ?_
  rintro v m1 ⟨e1, e2⟩
  rw [e1, e2]
  clear e1 e2
  simp only [Option.toList_some, Option.toList_none, List.cons_append, List.nil_append]
  have hl1 := hl b.toNat
  refine j_bif_ne (tgt := 11) rfl (by decide) (fun hb6_1 => ?_) (fun hb6_1 => ?_)
  · skip
    refine j_bipush rfl (by decide) ?_
    refine j_iload_n rfl rfl ?_
    refine j_imul rfl ?_
    refine j_iload_n rfl rfl ?_
    refine j_iadd rfl ?_
    refine j_istore rfl (by decide) ?_
    refine j_iload_n rfl rfl ?_
    by_cases hs20_1_0 : what = 0
    · skip
      refine j_tableIn (tgt := 52) rfl (by omega) (by omega) (by omega) (by omega) (by rw [hs20_1_0]; rfl) (by decide) ?_
      refine j_aload_n rfl rfl ?_
      refine j_getR (q := 92) rfl f_X12_25 rfl (hS.lt (by decide)) (hS.k (by decide) (by decide)) (hS.r (by decide)) ?_
      refine j_iload rfl rfl ?_
      refine j_zald (n := 84) rfl (hS.lt (by decide)) (hS.k (by decide) (by decide)) (hS.n (by decide) (by decide)) (by omega) (by omega) (by decide) ?_
      have u58_1 := mi_rng m 92 ((12 * b) + l).toNat
      refine j_if_eq (tgt := 66) rfl (by decide) (by omega) (by omega) (fun hb59_1 => ?_) (fun hb59_1 => ?_)
      · skip
        refine j_iconst rfl ?_
        refine j_iret rfl rfl ?_ rfl (Nat.le_refl _)
        unfold FX12_line
        rw [if_pos hb6_1, if_pos hs20_1_0, if_pos hb59_1]
        exact ⟨rfl, rfl⟩
      · skip
        refine j_iconst rfl ?_
        refine j_goto (tgt := 67) rfl (by decide) ?_
        refine j_iret rfl rfl ?_ rfl (Nat.le_refl _)
        unfold FX12_line
        rw [if_pos hb6_1, if_pos hs20_1_0, if_neg hb59_1]
        exact ⟨rfl, rfl⟩
    · skip
      by_cases hs20_1_1 : what = 1
      · skip
        refine j_tableIn (tgt := 68) rfl (by omega) (by omega) (by omega) (by omega) (by rw [hs20_1_1]; rfl) (by decide) ?_
        refine j_aload_n rfl rfl ?_
        refine j_getR (q := 96) rfl f_X12_38 rfl (hS.lt (by decide)) (hS.k (by decide) (by decide)) (hS.r (by decide)) ?_
        refine j_iload rfl rfl ?_
        refine j_iald (n := 84) rfl (hS.lt (by decide)) (hS.k (by decide) (by decide)) (hS.n (by decide) (by decide)) (by omega) (by omega) (by decide) ?_
        have u74_1 := mi_rng m 96 ((12 * b) + l).toNat
        refine j_aload_n rfl rfl ?_
        refine j_getR (q := 95) rfl f_X12_35 rfl (hS.lt (by decide)) (hS.k (by decide) (by decide)) (hS.r (by decide)) ?_
        refine j_iload rfl rfl ?_
        refine j_iald (n := 84) rfl (hS.lt (by decide)) (hS.k (by decide) (by decide)) (hS.n (by decide) (by decide)) (by omega) (by omega) (by decide) ?_
        have u81_1 := mi_rng m 95 ((12 * b) + l).toNat
        refine j_icmp_le (tgt := 89) rfl (by decide) (by omega) (by omega) (by omega) (by omega) (fun hb82_1 => ?_) (fun hb82_1 => ?_)
        · skip
          refine j_iconst rfl ?_
          refine j_iret rfl rfl ?_ rfl (Nat.le_refl _)
          unfold FX12_line
          rw [if_pos hb6_1, if_neg hs20_1_0, if_pos hs20_1_1, if_pos hb82_1]
          exact ⟨rfl, rfl⟩
        · skip
          refine j_iconst rfl ?_
          refine j_goto (tgt := 90) rfl (by decide) ?_
          refine j_iret rfl rfl ?_ rfl (Nat.le_refl _)
          unfold FX12_line
          rw [if_pos hb6_1, if_neg hs20_1_0, if_pos hs20_1_1, if_neg hb82_1]
          exact ⟨rfl, rfl⟩
      · skip
        by_cases hs20_1_2 : what = 2
        · skip
          refine j_tableIn (tgt := 91) rfl (by omega) (by omega) (by omega) (by omega) (by rw [hs20_1_2]; rfl) (by decide) ?_
          refine j_aload_n rfl rfl ?_
          refine j_getR (q := 93) rfl f_X12_29 rfl (hS.lt (by decide)) (hS.k (by decide) (by decide)) (hS.r (by decide)) ?_
          refine j_iload rfl rfl ?_
          refine j_zald (n := 84) rfl (hS.lt (by decide)) (hS.k (by decide) (by decide)) (hS.n (by decide) (by decide)) (by omega) (by omega) (by decide) ?_
          have u97_1 := mi_rng m 93 ((12 * b) + l).toNat
          refine j_if_eq (tgt := 105) rfl (by decide) (by omega) (by omega) (fun hb98_1 => ?_) (fun hb98_1 => ?_)
          · skip
            refine j_iconst rfl ?_
            refine j_iret rfl rfl ?_ rfl (Nat.le_refl _)
            unfold FX12_line
            rw [if_pos hb6_1, if_neg hs20_1_0, if_neg hs20_1_1, if_pos hs20_1_2, if_pos hb98_1]
            exact ⟨rfl, rfl⟩
          · skip
            refine j_iconst rfl ?_
            refine j_goto (tgt := 106) rfl (by decide) ?_
            refine j_iret rfl rfl ?_ rfl (Nat.le_refl _)
            unfold FX12_line
            rw [if_pos hb6_1, if_neg hs20_1_0, if_neg hs20_1_1, if_pos hs20_1_2, if_neg hb98_1]
            exact ⟨rfl, rfl⟩
        · skip
          by_cases hs20_1_3 : what = 3
          · skip
            refine j_tableIn (tgt := 107) rfl (by omega) (by omega) (by omega) (by omega) (by rw [hs20_1_3]; rfl) (by decide) ?_
            refine j_aload_n rfl rfl ?_
            refine j_getR (q := 94) rfl f_X12_32 rfl (hS.lt (by decide)) (hS.k (by decide) (by decide)) (hS.r (by decide)) ?_
            refine j_iload rfl rfl ?_
            refine j_iald (n := 84) rfl (hS.lt (by decide)) (hS.k (by decide) (by decide)) (hS.n (by decide) (by decide)) (by omega) (by omega) (by decide) ?_
            have u113_1 := mi_rng m 94 ((12 * b) + l).toNat
            refine j_iret rfl rfl ?_ rfl (Nat.le_refl _)
            unfold FX12_line
            rw [if_pos hb6_1, if_neg hs20_1_0, if_neg hs20_1_1, if_neg hs20_1_2, if_pos hs20_1_3]
            exact ⟨rfl, rfl⟩
          · skip
            refine j_tableOut (tgt := 115) rfl (by omega) (by omega) (by omega) (by decide) ?_
            refine j_iconst rfl ?_
            refine j_iret rfl rfl ?_ rfl (Nat.le_refl _)
            unfold FX12_line
            rw [if_pos hb6_1, if_neg hs20_1_0, if_neg hs20_1_1, if_neg hs20_1_2, if_neg hs20_1_3]
            exact ⟨rfl, rfl⟩
  · skip
    refine j_iconst rfl ?_
    refine j_iret rfl rfl ?_ rfl (Nat.le_refl _)
    unfold FX12_line
    rw [if_neg hb6_1]
    exact ⟨rfl, rfl⟩

def FX12_watch (m : AM) (b : Int) (l : Int) (is : Int) : Int × AM :=
  if (0 ≤ b ∧ b < mi m 86 1) ∧ 0 ≤ l ∧ l < mi m 91 b.toNat then
    if 0 ≤ is ∧ is ≤ 1 then
      if (mi m 93 ((12 * b) + l).toNat) = 0 then
        if is ≠ 1 then
          (0, (si m 93 ((12 * b) + l).toNat 0))
        else
          (0, (si m 93 ((12 * b) + l).toNat 1))
      else
        if is ≠ 1 then
          (1, (si m 93 ((12 * b) + l).toNat 0))
        else
          (1, (si m 93 ((12 * b) + l).toNat 1))
    else
      ((-1), m)
  else
    ((-1), m)
set_option maxRecDepth 20000 in
set_option maxHeartbeats 4000000 in
theorem ct_X12_watch {G : QW} {m : AM} (hS : St m) {b : Int} {l : Int} {is : Int} (hb1 : -2147483648 ≤ b) (hb2 : b < 2147483648) (hl1 : -2147483648 ≤ l) (hl2 : l < 2147483648) (his1 : -2147483648 ≤ is) (his2 : is < 2147483648) (h3 : 0 ≤ mi m 86 1) (h4 : mi m 86 1 ≤ 6) (hl : ∀ j, 0 ≤ mi m 91 j ∧ mi m 91 j ≤ 12) : qM G mX12_watch 3 0 0 [vR 86, vI b, vI l, vI is] m (fun r m' => r = some (vI (FX12_watch m b l is).1) ∧ m' = (FX12_watch m b l is).2) := by
  refine qM.intro okX12_watch (Nat.le_of_ble_eq_true rfl) ?_
  refine j_aload_n rfl rfl ?_
  refine j_iload_n rfl rfl ?_
  refine j_iload_n rfl rfl ?_
  refine j_callV (ci := 12) rfl okX12_isLine c_X12_203 (ct_X12_isLine hS (by omega) (by omega) (by omega) (by omega) (by omega) (by omega) hl) rfl rfl (hS.lt (by decide)) (hS.k (by decide) (by decide)) (by decide) rfl (by decide) (by decide) (by decide) ?_
  rintro v m1 ⟨e1, e2⟩
  rw [e1, e2]
  clear e1 e2
  simp only [Option.toList_some, Option.toList_none, List.cons_append, List.nil_append]
  have hl1 := hl b.toNat
  refine j_bif_eq (tgt := 18) rfl (by decide) (fun hb6_1 => ?_) (fun hb6_1 => ?_)
  · skip
    refine j_iconst rfl ?_
    refine j_iret rfl rfl ?_ rfl (Nat.le_refl _)
    unfold FX12_watch
    rw [if_neg hb6_1]
    exact ⟨rfl, rfl⟩
  · skip
    refine j_iload_n rfl rfl ?_
    refine j_iconst rfl ?_
    refine j_iconst rfl ?_
    refine j_callS (As := [_, _, _]) rfl okX12_in c_X12_194 (ct_X12_in (by omega) (by omega) (by omega) (by omega) (by omega) (by omega)) rfl rfl (by decide) (by decide) (by decide) ?_
    rintro v m1 ⟨e1, e2⟩
    rw [e1, e2]
    clear e1 e2
    simp only [Option.toList_some, Option.toList_none, List.cons_append, List.nil_append]
    refine j_bif_ne (tgt := 20) rfl (by decide) (fun hb15_1 => ?_) (fun hb15_1 => ?_)
    · skip
      refine j_aload_n rfl rfl ?_
      refine j_getR (q := 93) rfl f_X12_29 rfl (hS.lt (by decide)) (hS.k (by decide) (by decide)) (hS.r (by decide)) ?_
      refine j_bipush rfl (by decide) ?_
      refine j_iload_n rfl rfl ?_
      refine j_imul rfl ?_
      refine j_iload_n rfl rfl ?_
      refine j_iadd rfl ?_
      refine j_zald (n := 84) rfl (hS.lt (by decide)) (hS.k (by decide) (by decide)) (hS.n (by decide) (by decide)) (by omega) (by omega) (by decide) ?_
      have u30_1 := mi_rng m 93 ((12 * b) + l).toNat
      refine j_if_eq (tgt := 38) rfl (by decide) (by omega) (by omega) (fun hb31_1 => ?_) (fun hb31_1 => ?_)
      · skip
        refine j_iconst rfl ?_
        refine j_istore rfl (by decide) ?_
        refine j_aload_n rfl rfl ?_
        refine j_getR (q := 93) rfl f_X12_29 rfl (hS.lt (by decide)) (hS.k (by decide) (by decide)) (hS.r (by decide)) ?_
        refine j_bipush rfl (by decide) ?_
        refine j_iload_n rfl rfl ?_
        refine j_imul rfl ?_
        refine j_iload_n rfl rfl ?_
        refine j_iadd rfl ?_
        refine j_iload_n rfl rfl ?_
        refine j_iconst rfl ?_
        refine j_icmp_ne (tgt := 60) rfl (by decide) (by omega) (by omega) (by omega) (by omega) (fun hb53_1 => ?_) (fun hb53_1 => ?_)
        · skip
          refine j_iconst rfl ?_
          refine j_zast (n := 84) rfl (hS.lt (by decide)) (hS.k (by decide) (by decide)) (hS.n (by decide) (by decide)) (by omega) (by omega) (by decide) (by omega) ?_
          refine j_iload rfl rfl ?_
          refine j_iret rfl rfl ?_ rfl (Nat.le_refl _)
          unfold FX12_watch
          rw [if_pos hb6_1, if_pos hb15_1, if_pos hb31_1, if_pos hb53_1]
          exact ⟨rfl, rfl⟩
        · skip
          refine j_iconst rfl ?_
          refine j_goto (tgt := 61) rfl (by decide) ?_
          refine j_zast (n := 84) rfl (hS.lt (by decide)) (hS.k (by decide) (by decide)) (hS.n (by decide) (by decide)) (by omega) (by omega) (by decide) (by omega) ?_
          refine j_iload rfl rfl ?_
          refine j_iret rfl rfl ?_ rfl (Nat.le_refl _)
          unfold FX12_watch
          rw [if_pos hb6_1, if_pos hb15_1, if_pos hb31_1, if_neg (not_not_intro hb53_1)]
          exact ⟨rfl, rfl⟩
      · skip
        refine j_iconst rfl ?_
        refine j_goto (tgt := 39) rfl (by decide) ?_
        refine j_istore rfl (by decide) ?_
        refine j_aload_n rfl rfl ?_
        refine j_getR (q := 93) rfl f_X12_29 rfl (hS.lt (by decide)) (hS.k (by decide) (by decide)) (hS.r (by decide)) ?_
        refine j_bipush rfl (by decide) ?_
        refine j_iload_n rfl rfl ?_
        refine j_imul rfl ?_
        refine j_iload_n rfl rfl ?_
        refine j_iadd rfl ?_
        refine j_iload_n rfl rfl ?_
        refine j_iconst rfl ?_
        refine j_icmp_ne (tgt := 60) rfl (by decide) (by omega) (by omega) (by omega) (by omega) (fun hb53_2 => ?_) (fun hb53_2 => ?_)
        · skip
          refine j_iconst rfl ?_
          refine j_zast (n := 84) rfl (hS.lt (by decide)) (hS.k (by decide) (by decide)) (hS.n (by decide) (by decide)) (by omega) (by omega) (by decide) (by omega) ?_
          refine j_iload rfl rfl ?_
          refine j_iret rfl rfl ?_ rfl (Nat.le_refl _)
          unfold FX12_watch
          rw [if_pos hb6_1, if_pos hb15_1, if_neg hb31_1, if_pos hb53_2]
          exact ⟨rfl, rfl⟩
        · skip
          refine j_iconst rfl ?_
          refine j_goto (tgt := 61) rfl (by decide) ?_
          refine j_zast (n := 84) rfl (hS.lt (by decide)) (hS.k (by decide) (by decide)) (hS.n (by decide) (by decide)) (by omega) (by omega) (by decide) (by omega) ?_
          refine j_iload rfl rfl ?_
          refine j_iret rfl rfl ?_ rfl (Nat.le_refl _)
          unfold FX12_watch
          rw [if_pos hb6_1, if_pos hb15_1, if_neg hb31_1, if_neg (not_not_intro hb53_2)]
          exact ⟨rfl, rfl⟩
    · skip
      refine j_iconst rfl ?_
      refine j_iret rfl rfl ?_ rfl (Nat.le_refl _)
      unfold FX12_watch
      rw [if_pos hb6_1, if_neg hb15_1]
      exact ⟨rfl, rfl⟩


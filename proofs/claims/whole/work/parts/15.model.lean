def FX12_bits (m : AM) (b : Int) (s : Int) (v : Int) : Int × AM :=
  if 0 ≤ b ∧ b < mi m 86 1 then
    if 0 ≤ s ∧ s ≤ 7 then
      if 2 ≤ v ∧ v ≤ 20 then
        (mi m 88 ((8 * b) + s).toNat, (si m 88 ((8 * b) + s).toNat v))
      else
        ((-1), m)
    else
      ((-1), m)
  else
    ((-1), m)
set_option maxRecDepth 20000 in
set_option maxHeartbeats 4000000 in
theorem ct_X12_bits {G : QW} {m : AM} (hS : St m) (hI : IM m) {b : Int} {s : Int} {v : Int} (hb1 : -2147483648 ≤ b) (hb2 : b < 2147483648) (hs1 : -2147483648 ≤ s) (hs2 : s < 2147483648) (hv1 : -2147483648 ≤ v) (hv2 : v < 2147483648) : qM G mX12_bits 2 0 0 [vR 86, vI b, vI s, vI v] m (fun r m' => r = some (vI (FX12_bits m b s v).1) ∧ m' = (FX12_bits m b s v).2) := by
  refine qM.intro okX12_bits (Nat.le_of_ble_eq_true rfl) ?_
  refine j_aload_n rfl rfl ?_
  refine j_iload_n rfl rfl ?_
  refine j_callV (ci := 12) rfl okX12_isBox c_X12_198 (ct_X12_isBox hS hI (by omega) (by omega)) rfl rfl (hS.lt (by decide)) (hS.k (by decide) (by decide)) (by decide) rfl (Nat.le_of_ble_eq_true rfl) (by decide) (by decide) ?_
  rintro vq mq ⟨e1, e2⟩
  rw [e1, e2]
  clear e1 e2
  simp only [Option.toList_some, Option.toList_none, List.cons_append, List.nil_append]
  have w1 := hI.s 86 1 (0) 6 (by decide)
  refine j_bif_eq (tgt := 28) rfl (by decide) (fun hb5_1 => ?_) (fun hb5_1 => ?_)
  · skip
    refine j_iconst rfl ?_
    refine j_iret rfl rfl ?_ rfl (Nat.le_refl _)
    unfold FX12_bits
    rw [if_neg hb5_1]
    exact ⟨rfl, rfl⟩
  · skip
    refine j_iload_n rfl rfl ?_
    refine j_iconst rfl ?_
    refine j_bipush rfl (by decide) ?_
    refine j_callS (As := [_, _, _]) rfl okX12_in c_X12_194 (ct_X12_in (by omega) (by omega) (by omega) (by omega) (by omega) (by omega)) rfl rfl (Nat.le_of_ble_eq_true rfl) (by decide) (by decide) ?_
    rintro vq mq ⟨e1, e2⟩
    rw [e1, e2]
    clear e1 e2
    simp only [Option.toList_some, Option.toList_none, List.cons_append, List.nil_append]
    refine j_bif_eq (tgt := 28) rfl (by decide) (fun hb15_1 => ?_) (fun hb15_1 => ?_)
    · skip
      refine j_iconst rfl ?_
      refine j_iret rfl rfl ?_ rfl (Nat.le_refl _)
      unfold FX12_bits
      rw [if_pos hb5_1, if_neg hb15_1]
      exact ⟨rfl, rfl⟩
    · skip
      refine j_iload_n rfl rfl ?_
      refine j_iconst rfl ?_
      refine j_bipush rfl (by decide) ?_
      refine j_callS (As := [_, _, _]) rfl okX12_in c_X12_194 (ct_X12_in (by omega) (by omega) (by omega) (by omega) (by omega) (by omega)) rfl rfl (Nat.le_of_ble_eq_true rfl) (by decide) (by decide) ?_
      rintro vq mq ⟨e1, e2⟩
      rw [e1, e2]
      clear e1 e2
      simp only [Option.toList_some, Option.toList_none, List.cons_append, List.nil_append]
      refine j_bif_ne (tgt := 30) rfl (by decide) (fun hb25_1 => ?_) (fun hb25_1 => ?_)
      · skip
        refine j_aload_n rfl rfl ?_
        refine j_getR (q := 88) rfl f_X12_13 rfl (hS.lt (by decide)) (hS.k (by decide) (by decide)) (hS.r (by decide)) ?_
        refine j_bipush rfl (by decide) ?_
        refine j_iload_n rfl rfl ?_
        refine j_imul rfl ?_
        refine j_iload_n rfl rfl ?_
        refine j_iadd rfl ?_
        refine j_iald (n := 48) rfl (hS.lt (by decide)) (hS.k (by decide) (by decide)) (hS.n (by decide) (by decide)) (by omega) (by omega) (by decide) ?_
        have u40_1 := hI.a 88 (0) 20 (by decide) ((8 * b) + s).toNat
        refine j_istore rfl (by decide) ?_
        refine j_aload_n rfl rfl ?_
        refine j_getR (q := 88) rfl f_X12_13 rfl (hS.lt (by decide)) (hS.k (by decide) (by decide)) (hS.r (by decide)) ?_
        refine j_bipush rfl (by decide) ?_
        refine j_iload_n rfl rfl ?_
        refine j_imul rfl ?_
        refine j_iload_n rfl rfl ?_
        refine j_iadd rfl ?_
        refine j_iload_n rfl rfl ?_
        refine j_iast (n := 48) rfl (hS.lt (by decide)) (hS.k (by decide) (by decide)) (hS.n (by decide) (by decide)) (by omega) (by omega) (by first | decide | omega) ?_
        refine j_iload rfl rfl ?_
        refine j_iret rfl rfl ?_ rfl (Nat.le_refl _)
        unfold FX12_bits
        rw [if_pos hb5_1, if_pos hb15_1, if_pos hb25_1]
        exact ⟨rfl, rfl⟩
      · skip
        refine j_iconst rfl ?_
        refine j_iret rfl rfl ?_ rfl (Nat.le_refl _)
        unfold FX12_bits
        rw [if_pos hb5_1, if_pos hb15_1, if_neg hb25_1]
        exact ⟨rfl, rfl⟩

def FX12_wire (m : AM) (b : Int) (i : Int) (fr0 : Int) (port : Int) : Int × AM :=
  if 0 ≤ b ∧ b < mi m 86 1 then
    if 0 ≤ i ∧ i ≤ 3 then
      if fr0 = (-1) then
        if fr0 ≥ 0 then
          (mi m 89 ((4 * b) + i).toNat, (si m 89 ((4 * b) + i).toNat ((10 * fr0) + port)))
        else
          (mi m 89 ((4 * b) + i).toNat, (si m 89 ((4 * b) + i).toNat (-1)))
      else
        if 0 ≤ fr0 ∧ fr0 < mi m 86 1 then
          if 0 ≤ port ∧ port ≤ 3 then
            if fr0 ≥ 0 then
              (mi m 89 ((4 * b) + i).toNat, (si m 89 ((4 * b) + i).toNat ((10 * fr0) + port)))
            else
              (mi m 89 ((4 * b) + i).toNat, (si m 89 ((4 * b) + i).toNat (-1)))
          else
            ((-2000000000), m)
        else
          ((-2000000000), m)
    else
      ((-2000000000), m)
  else
    ((-2000000000), m)
set_option maxRecDepth 20000 in
set_option maxHeartbeats 4000000 in
theorem ct_X12_wire {G : QW} {m : AM} (hS : St m) (hI : IM m) {b : Int} {i : Int} {fr0 : Int} {port : Int} (hb1 : -2147483648 ≤ b) (hb2 : b < 2147483648) (hi1 : -2147483648 ≤ i) (hi2 : i < 2147483648) (hfr01 : -2147483648 ≤ fr0) (hfr02 : fr0 < 2147483648) (hport1 : -2147483648 ≤ port) (hport2 : port < 2147483648) : qM G mX12_wire 2 0 0 [vR 86, vI b, vI i, vI fr0, vI port] m (fun r m' => r = some (vI (FX12_wire m b i fr0 port).1) ∧ m' = (FX12_wire m b i fr0 port).2) := by
  refine qM.intro okX12_wire (Nat.le_of_ble_eq_true rfl) ?_
  refine j_aload_n rfl rfl ?_
  refine j_iload_n rfl rfl ?_
  refine j_callV (ci := 12) rfl okX12_isBox c_X12_198 (ct_X12_isBox hS hI (by omega) (by omega)) rfl rfl (hS.lt (by decide)) (hS.k (by decide) (by decide)) (by decide) rfl (Nat.le_of_ble_eq_true rfl) (by decide) (by decide) ?_
  rintro vq mq ⟨e1, e2⟩
  rw [e1, e2]
  clear e1 e2
  simp only [Option.toList_some, Option.toList_none, List.cons_append, List.nil_append]
  have w1 := hI.s 86 1 (0) 6 (by decide)
  refine j_bif_eq (tgt := 40) rfl (by decide) (fun hb5_1 => ?_) (fun hb5_1 => ?_)
  · skip
    refine j_ldc (v := -2000000000) rfl k_X12_202 ?_
    refine j_iret rfl rfl ?_ rfl (Nat.le_refl _)
    unfold FX12_wire
    rw [if_neg hb5_1]
    exact ⟨rfl, rfl⟩
  · skip
    refine j_iload_n rfl rfl ?_
    refine j_iconst rfl ?_
    refine j_iconst rfl ?_
    refine j_callS (As := [_, _, _]) rfl okX12_in c_X12_194 (ct_X12_in (by omega) (by omega) (by omega) (by omega) (by omega) (by omega)) rfl rfl (Nat.le_of_ble_eq_true rfl) (by decide) (by decide) ?_
    rintro vq mq ⟨e1, e2⟩
    rw [e1, e2]
    clear e1 e2
    simp only [Option.toList_some, Option.toList_none, List.cons_append, List.nil_append]
    refine j_bif_eq (tgt := 40) rfl (by decide) (fun hb14_1 => ?_) (fun hb14_1 => ?_)
    · skip
      refine j_ldc (v := -2000000000) rfl k_X12_202 ?_
      refine j_iret rfl rfl ?_ rfl (Nat.le_refl _)
      unfold FX12_wire
      rw [if_pos hb5_1, if_neg hb14_1]
      exact ⟨rfl, rfl⟩
    · skip
      refine j_iload_n rfl rfl ?_
      refine j_iconst rfl ?_
      refine j_icmp_eq (tgt := 43) rfl (by decide) (by omega) (by omega) (by omega) (by omega) (fun hb19_1 => ?_) (fun hb19_1 => ?_)
      · skip
        refine j_aload_n rfl rfl ?_
        refine j_getR (q := 89) rfl f_X12_16 rfl (hS.lt (by decide)) (hS.k (by decide) (by decide)) (hS.r (by decide)) ?_
        refine j_iconst rfl ?_
        refine j_iload_n rfl rfl ?_
        refine j_imul rfl ?_
        refine j_iload_n rfl rfl ?_
        refine j_iadd rfl ?_
        refine j_iald (n := 24) rfl (hS.lt (by decide)) (hS.k (by decide) (by decide)) (hS.n (by decide) (by decide)) (by omega) (by omega) (by decide) ?_
        have u52_1 := hI.a 89 (-1) 53 (by decide) ((4 * b) + i).toNat
        refine j_istore rfl (by decide) ?_
        refine j_aload_n rfl rfl ?_
        refine j_getR (q := 89) rfl f_X12_16 rfl (hS.lt (by decide)) (hS.k (by decide) (by decide)) (hS.r (by decide)) ?_
        refine j_iconst rfl ?_
        refine j_iload_n rfl rfl ?_
        refine j_imul rfl ?_
        refine j_iload_n rfl rfl ?_
        refine j_iadd rfl ?_
        refine j_iload_n rfl rfl ?_
        refine j_if_ge (tgt := 72) rfl (by decide) (by omega) (by omega) (fun hb65_1 => ?_) (fun hb65_1 => ?_)
        · skip
          refine j_bipush rfl (by decide) ?_
          refine j_iload_n rfl rfl ?_
          refine j_imul rfl ?_
          refine j_iload rfl rfl ?_
          refine j_iadd rfl ?_
          refine j_iast (n := 24) rfl (hS.lt (by decide)) (hS.k (by decide) (by decide)) (hS.n (by decide) (by decide)) (by omega) (by omega) (by first | decide | omega) ?_
          refine j_iload rfl rfl ?_
          refine j_iret rfl rfl ?_ rfl (Nat.le_refl _)
          unfold FX12_wire
          rw [if_pos hb5_1, if_pos hb14_1, if_pos hb19_1, if_pos hb65_1]
          exact ⟨rfl, rfl⟩
        · skip
          refine j_iconst rfl ?_
          refine j_goto (tgt := 79) rfl (by decide) ?_
          refine j_iast (n := 24) rfl (hS.lt (by decide)) (hS.k (by decide) (by decide)) (hS.n (by decide) (by decide)) (by omega) (by omega) (by first | decide | omega) ?_
          refine j_iload rfl rfl ?_
          refine j_iret rfl rfl ?_ rfl (Nat.le_refl _)
          unfold FX12_wire
          rw [if_pos hb5_1, if_pos hb14_1, if_pos hb19_1, if_neg hb65_1]
          exact ⟨rfl, rfl⟩
      · skip
        refine j_aload_n rfl rfl ?_
        refine j_iload_n rfl rfl ?_
        refine j_callV (ci := 12) rfl okX12_isBox c_X12_198 (ct_X12_isBox hS hI (by omega) (by omega)) rfl rfl (hS.lt (by decide)) (hS.k (by decide) (by decide)) (by decide) rfl (Nat.le_of_ble_eq_true rfl) (by decide) (by decide) ?_
        rintro vq mq ⟨e1, e2⟩
        rw [e1, e2]
        clear e1 e2
        simp only [Option.toList_some, Option.toList_none, List.cons_append, List.nil_append]
        have w2 := hI.s 86 1 (0) 6 (by decide)
        refine j_bif_eq (tgt := 40) rfl (by decide) (fun hb27_1 => ?_) (fun hb27_1 => ?_)
        · skip
          refine j_ldc (v := -2000000000) rfl k_X12_202 ?_
          refine j_iret rfl rfl ?_ rfl (Nat.le_refl _)
          unfold FX12_wire
          rw [if_pos hb5_1, if_pos hb14_1, if_neg hb19_1, if_neg hb27_1]
          exact ⟨rfl, rfl⟩
        · skip
          refine j_iload rfl rfl ?_
          refine j_iconst rfl ?_
          refine j_iconst rfl ?_
          refine j_callS (As := [_, _, _]) rfl okX12_in c_X12_194 (ct_X12_in (by omega) (by omega) (by omega) (by omega) (by omega) (by omega)) rfl rfl (Nat.le_of_ble_eq_true rfl) (by decide) (by decide) ?_
          rintro vq mq ⟨e1, e2⟩
          rw [e1, e2]
          clear e1 e2
          simp only [Option.toList_some, Option.toList_none, List.cons_append, List.nil_append]
          refine j_bif_ne (tgt := 43) rfl (by decide) (fun hb37_1 => ?_) (fun hb37_1 => ?_)
          · skip
            refine j_aload_n rfl rfl ?_
            refine j_getR (q := 89) rfl f_X12_16 rfl (hS.lt (by decide)) (hS.k (by decide) (by decide)) (hS.r (by decide)) ?_
            refine j_iconst rfl ?_
            refine j_iload_n rfl rfl ?_
            refine j_imul rfl ?_
            refine j_iload_n rfl rfl ?_
            refine j_iadd rfl ?_
            refine j_iald (n := 24) rfl (hS.lt (by decide)) (hS.k (by decide) (by decide)) (hS.n (by decide) (by decide)) (by omega) (by omega) (by decide) ?_
            have u52_2 := hI.a 89 (-1) 53 (by decide) ((4 * b) + i).toNat
            refine j_istore rfl (by decide) ?_
            refine j_aload_n rfl rfl ?_
            refine j_getR (q := 89) rfl f_X12_16 rfl (hS.lt (by decide)) (hS.k (by decide) (by decide)) (hS.r (by decide)) ?_
            refine j_iconst rfl ?_
            refine j_iload_n rfl rfl ?_
            refine j_imul rfl ?_
            refine j_iload_n rfl rfl ?_
            refine j_iadd rfl ?_
            refine j_iload_n rfl rfl ?_
            refine j_if_ge (tgt := 72) rfl (by decide) (by omega) (by omega) (fun hb65_2 => ?_) (fun hb65_2 => ?_)
            · skip
              refine j_bipush rfl (by decide) ?_
              refine j_iload_n rfl rfl ?_
              refine j_imul rfl ?_
              refine j_iload rfl rfl ?_
              refine j_iadd rfl ?_
              refine j_iast (n := 24) rfl (hS.lt (by decide)) (hS.k (by decide) (by decide)) (hS.n (by decide) (by decide)) (by omega) (by omega) (by first | decide | omega) ?_
              refine j_iload rfl rfl ?_
              refine j_iret rfl rfl ?_ rfl (Nat.le_refl _)
              unfold FX12_wire
              rw [if_pos hb5_1, if_pos hb14_1, if_neg hb19_1, if_pos hb27_1, if_pos hb37_1, if_pos hb65_2]
              exact ⟨rfl, rfl⟩
            · skip
              refine j_iconst rfl ?_
              refine j_goto (tgt := 79) rfl (by decide) ?_
              refine j_iast (n := 24) rfl (hS.lt (by decide)) (hS.k (by decide) (by decide)) (hS.n (by decide) (by decide)) (by omega) (by omega) (by first | decide | omega) ?_
              refine j_iload rfl rfl ?_
              refine j_iret rfl rfl ?_ rfl (Nat.le_refl _)
              unfold FX12_wire
              rw [if_pos hb5_1, if_pos hb14_1, if_neg hb19_1, if_pos hb27_1, if_pos hb37_1, if_neg hb65_2]
              exact ⟨rfl, rfl⟩
          · skip
            refine j_ldc (v := -2000000000) rfl k_X12_202 ?_
            refine j_iret rfl rfl ?_ rfl (Nat.le_refl _)
            unfold FX12_wire
            rw [if_pos hb5_1, if_pos hb14_1, if_neg hb19_1, if_pos hb27_1, if_neg hb37_1]
            exact ⟨rfl, rfl⟩

def FX12_line (m : AM) (b : Int) (l : Int) (what : Int) : Int :=
  if (0 ≤ b ∧ b < mi m 86 1) ∧ 0 ≤ l ∧ l < mi m 91 b.toNat then
    if what = 0 then
      if (mi m 92 ((12 * b) + l).toNat) = 0 then
        0
      else
        1
    else
      if what = 1 then
        if (mi m 96 ((12 * b) + l).toNat) ≤ (mi m 95 ((12 * b) + l).toNat) then
          0
        else
          1
      else
        if what = 2 then
          if (mi m 93 ((12 * b) + l).toNat) = 0 then
            0
          else
            1
        else
          if what = 3 then
            mi m 94 ((12 * b) + l).toNat
          else
            (-1)
  else
    (-1)
set_option maxRecDepth 20000 in
set_option maxHeartbeats 4000000 in
theorem ct_X12_line {G : QW} {m : AM} (hS : St m) (hI : IM m) {b : Int} {l : Int} {what : Int} (hb1 : -2147483648 ≤ b) (hb2 : b < 2147483648) (hl1 : -2147483648 ≤ l) (hl2 : l < 2147483648) (hwhat1 : -2147483648 ≤ what) (hwhat2 : what < 2147483648) : qM G mX12_line 3 0 0 [vR 86, vI b, vI l, vI what] m (fun r m' => r = some (vI (FX12_line m b l what)) ∧ m' = m) := by
  refine qM.intro okX12_line (Nat.le_of_ble_eq_true rfl) ?_
  refine j_aload_n rfl rfl ?_
  refine j_iload_n rfl rfl ?_
  refine j_iload_n rfl rfl ?_
  refine j_callV (ci := 12) rfl okX12_isLine c_X12_203 (ct_X12_isLine hS hI (by omega) (by omega) (by omega) (by omega)) rfl rfl (hS.lt (by decide)) (hS.k (by decide) (by decide)) (by decide) rfl (Nat.le_of_ble_eq_true rfl) (by decide) (by decide) ?_
  rintro vq mq ⟨e1, e2⟩
  rw [e1, e2]
  clear e1 e2
  simp only [Option.toList_some, Option.toList_none, List.cons_append, List.nil_append]
  have w1 := hI.s 86 1 (0) 6 (by decide)
  have w2 := hI.a 91 (0) 12 (by decide) b.toNat
  refine j_bif_ne (tgt := 11) rfl (by decide) (fun hb6_1 => ?_) (fun hb6_1 => ?_)
  · skip
    refine j_bipush rfl (by decide) ?_
    refine j_iload_n rfl rfl ?_
    refine j_imul rfl ?_
    refine j_iload_n rfl rfl ?_
    refine j_iadd rfl ?_
    refine j_istore rfl (by decide) ?_
    refine j_iload_n rfl rfl ?_
    by_cases hs20_1_0 : what = 0
    · skip
      refine j_tableIn (tgt := 52) rfl (by omega) (by omega) (by omega) (by omega) (by rw [hs20_1_0]; rfl) (by decide) ?_
      refine j_aload_n rfl rfl ?_
      refine j_getR (q := 92) rfl f_X12_25 rfl (hS.lt (by decide)) (hS.k (by decide) (by decide)) (hS.r (by decide)) ?_
      refine j_iload rfl rfl ?_
      refine j_zald (n := 84) rfl (hS.lt (by decide)) (hS.k (by decide) (by decide)) (hS.n (by decide) (by decide)) (by omega) (by omega) (by decide) ?_
      have u58_1 := hI.a 92 (0) 1 (by decide) ((12 * b) + l).toNat
      refine j_if_eq (tgt := 66) rfl (by decide) (by omega) (by omega) (fun hb59_1 => ?_) (fun hb59_1 => ?_)
      · skip
        refine j_iconst rfl ?_
        refine j_iret rfl rfl ?_ rfl (Nat.le_refl _)
        unfold FX12_line
        rw [if_pos hb6_1, if_pos hs20_1_0, if_pos hb59_1]
        exact ⟨rfl, rfl⟩
      · skip
        refine j_iconst rfl ?_
        refine j_goto (tgt := 67) rfl (by decide) ?_
        refine j_iret rfl rfl ?_ rfl (Nat.le_refl _)
        unfold FX12_line
        rw [if_pos hb6_1, if_pos hs20_1_0, if_neg hb59_1]
        exact ⟨rfl, rfl⟩
    · skip
      by_cases hs20_1_1 : what = 1
      · skip
        refine j_tableIn (tgt := 68) rfl (by omega) (by omega) (by omega) (by omega) (by rw [hs20_1_1]; rfl) (by decide) ?_
        refine j_aload_n rfl rfl ?_
        refine j_getR (q := 96) rfl f_X12_38 rfl (hS.lt (by decide)) (hS.k (by decide) (by decide)) (hS.r (by decide)) ?_
        refine j_iload rfl rfl ?_
        refine j_iald (n := 84) rfl (hS.lt (by decide)) (hS.k (by decide) (by decide)) (hS.n (by decide) (by decide)) (by omega) (by omega) (by decide) ?_
        have u74_1 := hI.a 96 (0) 160 (by decide) ((12 * b) + l).toNat
        refine j_aload_n rfl rfl ?_
        refine j_getR (q := 95) rfl f_X12_35 rfl (hS.lt (by decide)) (hS.k (by decide) (by decide)) (hS.r (by decide)) ?_
        refine j_iload rfl rfl ?_
        refine j_iald (n := 84) rfl (hS.lt (by decide)) (hS.k (by decide) (by decide)) (hS.n (by decide) (by decide)) (by omega) (by omega) (by decide) ?_
        have u81_1 := hI.a 95 (0) 160 (by decide) ((12 * b) + l).toNat
        refine j_icmp_le (tgt := 89) rfl (by decide) (by omega) (by omega) (by omega) (by omega) (fun hb82_1 => ?_) (fun hb82_1 => ?_)
        · skip
          refine j_iconst rfl ?_
          refine j_iret rfl rfl ?_ rfl (Nat.le_refl _)
          unfold FX12_line
          rw [if_pos hb6_1, if_neg hs20_1_0, if_pos hs20_1_1, if_pos hb82_1]
          exact ⟨rfl, rfl⟩
        · skip
          refine j_iconst rfl ?_
          refine j_goto (tgt := 90) rfl (by decide) ?_
          refine j_iret rfl rfl ?_ rfl (Nat.le_refl _)
          unfold FX12_line
          rw [if_pos hb6_1, if_neg hs20_1_0, if_pos hs20_1_1, if_neg hb82_1]
          exact ⟨rfl, rfl⟩
      · skip
        by_cases hs20_1_2 : what = 2
        · skip
          refine j_tableIn (tgt := 91) rfl (by omega) (by omega) (by omega) (by omega) (by rw [hs20_1_2]; rfl) (by decide) ?_
          refine j_aload_n rfl rfl ?_
          refine j_getR (q := 93) rfl f_X12_29 rfl (hS.lt (by decide)) (hS.k (by decide) (by decide)) (hS.r (by decide)) ?_
          refine j_iload rfl rfl ?_
          refine j_zald (n := 84) rfl (hS.lt (by decide)) (hS.k (by decide) (by decide)) (hS.n (by decide) (by decide)) (by omega) (by omega) (by decide) ?_
          have u97_1 := hI.a 93 (0) 1 (by decide) ((12 * b) + l).toNat
          refine j_if_eq (tgt := 105) rfl (by decide) (by omega) (by omega) (fun hb98_1 => ?_) (fun hb98_1 => ?_)
          · skip
            refine j_iconst rfl ?_
            refine j_iret rfl rfl ?_ rfl (Nat.le_refl _)
            unfold FX12_line
            rw [if_pos hb6_1, if_neg hs20_1_0, if_neg hs20_1_1, if_pos hs20_1_2, if_pos hb98_1]
            exact ⟨rfl, rfl⟩
          · skip
            refine j_iconst rfl ?_
            refine j_goto (tgt := 106) rfl (by decide) ?_
            refine j_iret rfl rfl ?_ rfl (Nat.le_refl _)
            unfold FX12_line
            rw [if_pos hb6_1, if_neg hs20_1_0, if_neg hs20_1_1, if_pos hs20_1_2, if_neg hb98_1]
            exact ⟨rfl, rfl⟩
        · skip
          by_cases hs20_1_3 : what = 3
          · skip
            refine j_tableIn (tgt := 107) rfl (by omega) (by omega) (by omega) (by omega) (by rw [hs20_1_3]; rfl) (by decide) ?_
            refine j_aload_n rfl rfl ?_
            refine j_getR (q := 94) rfl f_X12_32 rfl (hS.lt (by decide)) (hS.k (by decide) (by decide)) (hS.r (by decide)) ?_
            refine j_iload rfl rfl ?_
            refine j_iald (n := 84) rfl (hS.lt (by decide)) (hS.k (by decide) (by decide)) (hS.n (by decide) (by decide)) (by omega) (by omega) (by decide) ?_
            have u113_1 := hI.a 94 (0) 13 (by decide) ((12 * b) + l).toNat
            refine j_iret rfl rfl ?_ rfl (Nat.le_refl _)
            unfold FX12_line
            rw [if_pos hb6_1, if_neg hs20_1_0, if_neg hs20_1_1, if_neg hs20_1_2, if_pos hs20_1_3]
            exact ⟨rfl, rfl⟩
          · skip
            refine j_tableOut (tgt := 115) rfl (by omega) (by omega) (by omega) (by decide) ?_
            refine j_iconst rfl ?_
            refine j_iret rfl rfl ?_ rfl (Nat.le_refl _)
            unfold FX12_line
            rw [if_pos hb6_1, if_neg hs20_1_0, if_neg hs20_1_1, if_neg hs20_1_2, if_neg hs20_1_3]
            exact ⟨rfl, rfl⟩
  · skip
    refine j_iconst rfl ?_
    refine j_iret rfl rfl ?_ rfl (Nat.le_refl _)
    unfold FX12_line
    rw [if_neg hb6_1]
    exact ⟨rfl, rfl⟩

def FX12_watch (m : AM) (b : Int) (l : Int) (is : Int) : Int × AM :=
  if (0 ≤ b ∧ b < mi m 86 1) ∧ 0 ≤ l ∧ l < mi m 91 b.toNat then
    if 0 ≤ is ∧ is ≤ 1 then
      if (mi m 93 ((12 * b) + l).toNat) = 0 then
        if is ≠ 1 then
          (0, (si m 93 ((12 * b) + l).toNat 0))
        else
          (0, (si m 93 ((12 * b) + l).toNat 1))
      else
        if is ≠ 1 then
          (1, (si m 93 ((12 * b) + l).toNat 0))
        else
          (1, (si m 93 ((12 * b) + l).toNat 1))
    else
      ((-1), m)
  else
    ((-1), m)
set_option maxRecDepth 20000 in
set_option maxHeartbeats 4000000 in
theorem ct_X12_watch {G : QW} {m : AM} (hS : St m) (hI : IM m) {b : Int} {l : Int} {is : Int} (hb1 : -2147483648 ≤ b) (hb2 : b < 2147483648) (hl1 : -2147483648 ≤ l) (hl2 : l < 2147483648) (his1 : -2147483648 ≤ is) (his2 : is < 2147483648) : qM G mX12_watch 3 0 0 [vR 86, vI b, vI l, vI is] m (fun r m' => r = some (vI (FX12_watch m b l is).1) ∧ m' = (FX12_watch m b l is).2) := by
  refine qM.intro okX12_watch (Nat.le_of_ble_eq_true rfl) ?_
  refine j_aload_n rfl rfl ?_
  refine j_iload_n rfl rfl ?_
  refine j_iload_n rfl rfl ?_
  refine j_callV (ci := 12) rfl okX12_isLine c_X12_203 (ct_X12_isLine hS hI (by omega) (by omega) (by omega) (by omega)) rfl rfl (hS.lt (by decide)) (hS.k (by decide) (by decide)) (by decide) rfl (Nat.le_of_ble_eq_true rfl) (by decide) (by decide) ?_
  rintro vq mq ⟨e1, e2⟩
  rw [e1, e2]
  clear e1 e2
  simp only [Option.toList_some, Option.toList_none, List.cons_append, List.nil_append]
  have w1 := hI.s 86 1 (0) 6 (by decide)
  have w2 := hI.a 91 (0) 12 (by decide) b.toNat
  refine j_bif_eq (tgt := 18) rfl (by decide) (fun hb6_1 => ?_) (fun hb6_1 => ?_)
  · skip
    refine j_iconst rfl ?_
    refine j_iret rfl rfl ?_ rfl (Nat.le_refl _)
    unfold FX12_watch
    rw [if_neg hb6_1]
    exact ⟨rfl, rfl⟩
  · skip
    refine j_iload_n rfl rfl ?_
    refine j_iconst rfl ?_
    refine j_iconst rfl ?_
    refine j_callS (As := [_, _, _]) rfl okX12_in c_X12_194 (ct_X12_in (by omega) (by omega) (by omega) (by omega) (by omega) (by omega)) rfl rfl (Nat.le_of_ble_eq_true rfl) (by decide) (by decide) ?_
    rintro vq mq ⟨e1, e2⟩
    rw [e1, e2]
    clear e1 e2
    simp only [Option.toList_some, Option.toList_none, List.cons_append, List.nil_append]
    refine j_bif_ne (tgt := 20) rfl (by decide) (fun hb15_1 => ?_) (fun hb15_1 => ?_)
    · skip
      refine j_aload_n rfl rfl ?_
      refine j_getR (q := 93) rfl f_X12_29 rfl (hS.lt (by decide)) (hS.k (by decide) (by decide)) (hS.r (by decide)) ?_
      refine j_bipush rfl (by decide) ?_
      refine j_iload_n rfl rfl ?_
      refine j_imul rfl ?_
      refine j_iload_n rfl rfl ?_
      refine j_iadd rfl ?_
      refine j_zald (n := 84) rfl (hS.lt (by decide)) (hS.k (by decide) (by decide)) (hS.n (by decide) (by decide)) (by omega) (by omega) (by decide) ?_
      have u30_1 := hI.a 93 (0) 1 (by decide) ((12 * b) + l).toNat
      refine j_if_eq (tgt := 38) rfl (by decide) (by omega) (by omega) (fun hb31_1 => ?_) (fun hb31_1 => ?_)
      · skip
        refine j_iconst rfl ?_
        refine j_istore rfl (by decide) ?_
        refine j_aload_n rfl rfl ?_
        refine j_getR (q := 93) rfl f_X12_29 rfl (hS.lt (by decide)) (hS.k (by decide) (by decide)) (hS.r (by decide)) ?_
        refine j_bipush rfl (by decide) ?_
        refine j_iload_n rfl rfl ?_
        refine j_imul rfl ?_
        refine j_iload_n rfl rfl ?_
        refine j_iadd rfl ?_
        refine j_iload_n rfl rfl ?_
        refine j_iconst rfl ?_
        refine j_icmp_ne (tgt := 60) rfl (by decide) (by omega) (by omega) (by omega) (by omega) (fun hb53_1 => ?_) (fun hb53_1 => ?_)
        · skip
          refine j_iconst rfl ?_
          refine j_zast (n := 84) rfl (hS.lt (by decide)) (hS.k (by decide) (by decide)) (hS.n (by decide) (by decide)) (by omega) (by omega) (by first | decide | omega) (by omega) ?_
          refine j_iload rfl rfl ?_
          refine j_iret rfl rfl ?_ rfl (Nat.le_refl _)
          unfold FX12_watch
          rw [if_pos hb6_1, if_pos hb15_1, if_pos hb31_1, if_pos hb53_1]
          exact ⟨rfl, rfl⟩
        · skip
          refine j_iconst rfl ?_
          refine j_goto (tgt := 61) rfl (by decide) ?_
          refine j_zast (n := 84) rfl (hS.lt (by decide)) (hS.k (by decide) (by decide)) (hS.n (by decide) (by decide)) (by omega) (by omega) (by first | decide | omega) (by omega) ?_
          refine j_iload rfl rfl ?_
          refine j_iret rfl rfl ?_ rfl (Nat.le_refl _)
          unfold FX12_watch
          rw [if_pos hb6_1, if_pos hb15_1, if_pos hb31_1, if_neg (not_not_intro hb53_1)]
          exact ⟨rfl, rfl⟩
      · skip
        refine j_iconst rfl ?_
        refine j_goto (tgt := 39) rfl (by decide) ?_
        refine j_istore rfl (by decide) ?_
        refine j_aload_n rfl rfl ?_
        refine j_getR (q := 93) rfl f_X12_29 rfl (hS.lt (by decide)) (hS.k (by decide) (by decide)) (hS.r (by decide)) ?_
        refine j_bipush rfl (by decide) ?_
        refine j_iload_n rfl rfl ?_
        refine j_imul rfl ?_
        refine j_iload_n rfl rfl ?_
        refine j_iadd rfl ?_
        refine j_iload_n rfl rfl ?_
        refine j_iconst rfl ?_
        refine j_icmp_ne (tgt := 60) rfl (by decide) (by omega) (by omega) (by omega) (by omega) (fun hb53_2 => ?_) (fun hb53_2 => ?_)
        · skip
          refine j_iconst rfl ?_
          refine j_zast (n := 84) rfl (hS.lt (by decide)) (hS.k (by decide) (by decide)) (hS.n (by decide) (by decide)) (by omega) (by omega) (by first | decide | omega) (by omega) ?_
          refine j_iload rfl rfl ?_
          refine j_iret rfl rfl ?_ rfl (Nat.le_refl _)
          unfold FX12_watch
          rw [if_pos hb6_1, if_pos hb15_1, if_neg hb31_1, if_pos hb53_2]
          exact ⟨rfl, rfl⟩
        · skip
          refine j_iconst rfl ?_
          refine j_goto (tgt := 61) rfl (by decide) ?_
          refine j_zast (n := 84) rfl (hS.lt (by decide)) (hS.k (by decide) (by decide)) (hS.n (by decide) (by decide)) (by omega) (by omega) (by first | decide | omega) (by omega) ?_
          refine j_iload rfl rfl ?_
          refine j_iret rfl rfl ?_ rfl (Nat.le_refl _)
          unfold FX12_watch
          rw [if_pos hb6_1, if_pos hb15_1, if_neg hb31_1, if_neg (not_not_intro hb53_2)]
          exact ⟨rfl, rfl⟩
    · skip
      refine j_iconst rfl ?_
      refine j_iret rfl rfl ?_ rfl (Nat.le_refl _)
      unfold FX12_watch
      rw [if_pos hb6_1, if_neg hb15_1]
      exact ⟨rfl, rfl⟩

def FX12_trace (m : AM) (i : Int) : Int :=
  if i < 0 then
    (-1)
  else
    if i ≥ (mi m 86 76) then
      (-1)
    else
      if i ≥ 24 then
        (-1)
      else
        mi m 138 i.toNat
set_option maxRecDepth 20000 in
set_option maxHeartbeats 4000000 in
theorem ct_X12_trace {G : QW} {m : AM} (hS : St m) (hI : IM m) {i : Int} (hi1 : -2147483648 ≤ i) (hi2 : i < 2147483648) : qM G mX12_trace 0 0 0 [vR 86, vI i] m (fun r m' => r = some (vI (FX12_trace m i)) ∧ m' = m) := by
  refine qM.intro okX12_trace (Nat.le_of_ble_eq_true rfl) ?_
  refine j_iload_n rfl rfl ?_
  refine j_if_lt (tgt := 27) rfl (by decide) (by omega) (by omega) (fun hb1_1 => ?_) (fun hb1_1 => ?_)
  · skip
    refine j_iconst rfl ?_
    refine j_iret rfl rfl ?_ rfl (Nat.le_refl _)
    unfold FX12_trace
    rw [if_pos hb1_1]
    exact ⟨rfl, rfl⟩
  · skip
    refine j_iload_n rfl rfl ?_
    refine j_aload_n rfl rfl ?_
    refine j_getI rfl f_X12_478 rfl (hS.lt (by decide)) (hS.k (by decide) (by decide)) ?_
    have u6_1 := hI.s 86 76 (0) 100 (by decide)
    refine j_icmp_ge (tgt := 27) rfl (by decide) (by omega) (by omega) (by omega) (by omega) (fun hb9_1 => ?_) (fun hb9_1 => ?_)
    · skip
      refine j_iconst rfl ?_
      refine j_iret rfl rfl ?_ rfl (Nat.le_refl _)
      unfold FX12_trace
      rw [if_neg hb1_1, if_pos hb9_1]
      exact ⟨rfl, rfl⟩
    · skip
      refine j_iload_n rfl rfl ?_
      refine j_bipush rfl (by decide) ?_
      refine j_icmp_ge (tgt := 27) rfl (by decide) (by omega) (by omega) (by omega) (by omega) (fun hb15_1 => ?_) (fun hb15_1 => ?_)
      · skip
        refine j_iconst rfl ?_
        refine j_iret rfl rfl ?_ rfl (Nat.le_refl _)
        unfold FX12_trace
        rw [if_neg hb1_1, if_neg hb9_1, if_pos hb15_1]
        exact ⟨rfl, rfl⟩
      · skip
        refine j_aload_n rfl rfl ?_
        refine j_getR (q := 138) rfl f_X12_166 rfl (hS.lt (by decide)) (hS.k (by decide) (by decide)) (hS.r (by decide)) ?_
        refine j_iload_n rfl rfl ?_
        refine j_iald (n := 24) rfl (hS.lt (by decide)) (hS.k (by decide) (by decide)) (hS.n (by decide) (by decide)) (by omega) (by omega) (by decide) ?_
        have u23_1 := hI.a 138 (0) 100 (by decide) i.toNat
        refine j_goto (tgt := 28) rfl (by decide) ?_
        refine j_iret rfl rfl ?_ rfl (Nat.le_refl _)
        unfold FX12_trace
        rw [if_neg hb1_1, if_neg hb9_1, if_neg hb15_1]
        exact ⟨rfl, rfl⟩

def FX12_count (m : AM) (what : Int) : Int :=
  if what = 0 then
    mi m 86 1
  else
    if what = 1 then
      mi m 86 21
    else
      if what = 2 then
        mi m 86 70
      else
        if what = 3 then
          mi m 86 16
        else
          if what = 4 then
            mi m 86 76
          else
            (-1)
set_option maxRecDepth 20000 in
set_option maxHeartbeats 4000000 in
theorem ct_X12_count {G : QW} {m : AM} (hS : St m) (hI : IM m) {what : Int} (hwhat1 : -2147483648 ≤ what) (hwhat2 : what < 2147483648) : qM G mX12_count 0 0 0 [vR 86, vI what] m (fun r m' => r = some (vI (FX12_count m what)) ∧ m' = m) := by
  refine qM.intro okX12_count (Nat.le_of_ble_eq_true rfl) ?_
  refine j_iload_n rfl rfl ?_
  by_cases hs1_1_0 : what = 0
  · skip
    refine j_tableIn (tgt := 36) rfl (by omega) (by omega) (by omega) (by omega) (by rw [hs1_1_0]; rfl) (by decide) ?_
    refine j_aload_n rfl rfl ?_
    refine j_getI rfl f_X12_191 rfl (hS.lt (by decide)) (hS.k (by decide) (by decide)) ?_
    have u37_1 := hI.s 86 1 (0) 6 (by decide)
    refine j_iret rfl rfl ?_ rfl (Nat.le_refl _)
    unfold FX12_count
    rw [if_pos hs1_1_0]
    exact ⟨rfl, rfl⟩
  · skip
    by_cases hs1_1_1 : what = 1
    · skip
      refine j_tableIn (tgt := 41) rfl (by omega) (by omega) (by omega) (by omega) (by rw [hs1_1_1]; rfl) (by decide) ?_
      refine j_aload_n rfl rfl ?_
      refine j_getI rfl f_X12_267 rfl (hS.lt (by decide)) (hS.k (by decide) (by decide)) ?_
      have u42_1 := hI.s 86 21 (0) 8 (by decide)
      refine j_iret rfl rfl ?_ rfl (Nat.le_refl _)
      unfold FX12_count
      rw [if_neg hs1_1_0, if_pos hs1_1_1]
      exact ⟨rfl, rfl⟩
    · skip
      by_cases hs1_1_2 : what = 2
      · skip
        refine j_tableIn (tgt := 46) rfl (by omega) (by omega) (by omega) (by omega) (by rw [hs1_1_2]; rfl) (by decide) ?_
        refine j_aload_n rfl rfl ?_
        refine j_getI rfl f_X12_458 rfl (hS.lt (by decide)) (hS.k (by decide) (by decide)) ?_
        have u47_1 := hI.s 86 70 (0) 20 (by decide)
        refine j_iret rfl rfl ?_ rfl (Nat.le_refl _)
        unfold FX12_count
        rw [if_neg hs1_1_0, if_neg hs1_1_1, if_pos hs1_1_2]
        exact ⟨rfl, rfl⟩
      · skip
        by_cases hs1_1_3 : what = 3
        · skip
          refine j_tableIn (tgt := 51) rfl (by omega) (by omega) (by omega) (by omega) (by rw [hs1_1_3]; rfl) (by decide) ?_
          refine j_aload_n rfl rfl ?_
          refine j_getI rfl f_X12_207 rfl (hS.lt (by decide)) (hS.k (by decide) (by decide)) ?_
          have u52_1 := hI.s 86 16 (0) 160 (by decide)
          refine j_iret rfl rfl ?_ rfl (Nat.le_refl _)
          unfold FX12_count
          rw [if_neg hs1_1_0, if_neg hs1_1_1, if_neg hs1_1_2, if_pos hs1_1_3]
          exact ⟨rfl, rfl⟩
        · skip
          by_cases hs1_1_4 : what = 4
          · skip
            refine j_tableIn (tgt := 56) rfl (by omega) (by omega) (by omega) (by omega) (by rw [hs1_1_4]; rfl) (by decide) ?_
            refine j_aload_n rfl rfl ?_
            refine j_getI rfl f_X12_478 rfl (hS.lt (by decide)) (hS.k (by decide) (by decide)) ?_
            have u57_1 := hI.s 86 76 (0) 100 (by decide)
            refine j_iret rfl rfl ?_ rfl (Nat.le_refl _)
            unfold FX12_count
            rw [if_neg hs1_1_0, if_neg hs1_1_1, if_neg hs1_1_2, if_neg hs1_1_3, if_pos hs1_1_4]
            exact ⟨rfl, rfl⟩
          · skip
            refine j_tableOut (tgt := 61) rfl (by omega) (by omega) (by omega) (by decide) ?_
            refine j_iconst rfl ?_
            refine j_iret rfl rfl ?_ rfl (Nat.le_refl _)
            unfold FX12_count
            rw [if_neg hs1_1_0, if_neg hs1_1_1, if_neg hs1_1_2, if_neg hs1_1_3, if_neg hs1_1_4]
            exact ⟨rfl, rfl⟩

def FX12_twin (m : AM) (t : Int) (b : Int) : Int × AM :=
  if 0 ≤ t ∧ t < mi m 86 1 then
    if (mi m 87 t.toNat) ≠ 1 then
      ((-1), m)
    else
      if 0 ≤ b ∧ b < mi m 86 1 then
        if t ≠ b then
          (1, (si m 90 t.toNat b))
        else
          ((-1), m)
      else
        ((-1), m)
  else
    ((-1), m)
set_option maxRecDepth 20000 in
set_option maxHeartbeats 4000000 in
theorem ct_X12_twin {G : QW} {m : AM} (hS : St m) (hI : IM m) {t : Int} {b : Int} (ht1 : -2147483648 ≤ t) (ht2 : t < 2147483648) (hb1 : -2147483648 ≤ b) (hb2 : b < 2147483648) : qM G mX12_twin 2 0 0 [vR 86, vI t, vI b] m (fun r m' => r = some (vI (FX12_twin m t b).1) ∧ m' = (FX12_twin m t b).2) := by
  refine qM.intro okX12_twin (Nat.le_of_ble_eq_true rfl) ?_
  refine j_aload_n rfl rfl ?_
  refine j_iload_n rfl rfl ?_
  refine j_callV (ci := 12) rfl okX12_isBox c_X12_198 (ct_X12_isBox hS hI (by omega) (by omega)) rfl rfl (hS.lt (by decide)) (hS.k (by decide) (by decide)) (by decide) rfl (Nat.le_of_ble_eq_true rfl) (by decide) (by decide) ?_
  rintro vq mq ⟨e1, e2⟩
  rw [e1, e2]
  clear e1 e2
  simp only [Option.toList_some, Option.toList_none, List.cons_append, List.nil_append]
  have w1 := hI.s 86 1 (0) 6 (by decide)
  refine j_bif_eq (tgt := 31) rfl (by decide) (fun hb5_1 => ?_) (fun hb5_1 => ?_)
  · skip
    refine j_iconst rfl ?_
    refine j_iret rfl rfl ?_ rfl (Nat.le_refl _)
    unfold FX12_twin
    rw [if_neg hb5_1]
    exact ⟨rfl, rfl⟩
  · skip
    refine j_aload_n rfl rfl ?_
    refine j_getR (q := 87) rfl f_X12_7 rfl (hS.lt (by decide)) (hS.k (by decide) (by decide)) (hS.r (by decide)) ?_
    refine j_iload_n rfl rfl ?_
    refine j_iald (n := 6) rfl (hS.lt (by decide)) (hS.k (by decide) (by decide)) (hS.n (by decide) (by decide)) (by omega) (by omega) (by decide) ?_
    have u13_1 := hI.a 87 (0) 6 (by decide) t.toNat
    refine j_iconst rfl ?_
    refine j_icmp_ne (tgt := 31) rfl (by decide) (by omega) (by omega) (by omega) (by omega) (fun hb15_1 => ?_) (fun hb15_1 => ?_)
    · skip
      refine j_iconst rfl ?_
      refine j_iret rfl rfl ?_ rfl (Nat.le_refl _)
      unfold FX12_twin
      rw [if_pos hb5_1, if_pos hb15_1]
      exact ⟨rfl, rfl⟩
    · skip
      refine j_aload_n rfl rfl ?_
      refine j_iload_n rfl rfl ?_
      refine j_callV (ci := 12) rfl okX12_isBox c_X12_198 (ct_X12_isBox hS hI (by omega) (by omega)) rfl rfl (hS.lt (by decide)) (hS.k (by decide) (by decide)) (by decide) rfl (Nat.le_of_ble_eq_true rfl) (by decide) (by decide) ?_
      rintro vq mq ⟨e1, e2⟩
      rw [e1, e2]
      clear e1 e2
      simp only [Option.toList_some, Option.toList_none, List.cons_append, List.nil_append]
      have w2 := hI.s 86 1 (0) 6 (by decide)
      refine j_bif_eq (tgt := 31) rfl (by decide) (fun hb23_1 => ?_) (fun hb23_1 => ?_)
      · skip
        refine j_iconst rfl ?_
        refine j_iret rfl rfl ?_ rfl (Nat.le_refl _)
        unfold FX12_twin
        rw [if_pos hb5_1, if_neg (not_not_intro hb15_1), if_neg hb23_1]
        exact ⟨rfl, rfl⟩
      · skip
        refine j_iload_n rfl rfl ?_
        refine j_iload_n rfl rfl ?_
        refine j_icmp_ne (tgt := 33) rfl (by decide) (by omega) (by omega) (by omega) (by omega) (fun hb28_1 => ?_) (fun hb28_1 => ?_)
        · skip
          refine j_aload_n rfl rfl ?_
          refine j_getR (q := 90) rfl f_X12_19 rfl (hS.lt (by decide)) (hS.k (by decide) (by decide)) (hS.r (by decide)) ?_
          refine j_iload_n rfl rfl ?_
          refine j_iload_n rfl rfl ?_
          refine j_iast (n := 6) rfl (hS.lt (by decide)) (hS.k (by decide) (by decide)) (hS.n (by decide) (by decide)) (by omega) (by omega) (by first | decide | omega) ?_
          refine j_iconst rfl ?_
          refine j_iret rfl rfl ?_ rfl (Nat.le_refl _)
          unfold FX12_twin
          rw [if_pos hb5_1, if_neg (not_not_intro hb15_1), if_pos hb23_1, if_pos hb28_1]
          exact ⟨rfl, rfl⟩
        · skip
          refine j_iconst rfl ?_
          refine j_iret rfl rfl ?_ rfl (Nat.le_refl _)
          unfold FX12_twin
          rw [if_pos hb5_1, if_neg (not_not_intro hb15_1), if_pos hb23_1, if_neg (not_not_intro hb28_1)]
          exact ⟨rfl, rfl⟩

def FX12_felt (m : AM) (fk : Int) (a : Int) (b : Int) (c : Int) : Int × AM :=
  if 0 ≤ fk ∧ (0 ≤ fk / 10 ∧ fk / 10 < mi m 86 21) ∧ 0 ≤ fk % 10 ∧ fk % 10 ≤ 2 then
    if (-99999) ≤ a ∧ a ≤ 99999 then
      if (-999) ≤ b ∧ b ≤ 999 then
        if 0 ≤ c ∧ c ≤ 99999 then
          (1, (si (si (si m 101 ((3 * (fk / 10)) + (fk % 10)).toNat a) 102 ((3 * (fk / 10)) + (fk % 10)).toNat b) 103 ((3 * (fk / 10)) + (fk % 10)).toNat c))
        else
          ((-1), m)
      else
        ((-1), m)
    else
      ((-1), m)
  else
    ((-1), m)
set_option maxRecDepth 20000 in
set_option maxHeartbeats 4000000 in
theorem ct_X12_felt {G : QW} {m : AM} (hS : St m) (hI : IM m) {fk : Int} {a : Int} {b : Int} {c : Int} (hfk1 : -2147483648 ≤ fk) (hfk2 : fk < 2147483648) (ha1 : -2147483648 ≤ a) (ha2 : a < 2147483648) (hb1 : -2147483648 ≤ b) (hb2 : b < 2147483648) (hc1 : -2147483648 ≤ c) (hc2 : c < 2147483648) : qM G mX12_felt 3 0 0 [vR 86, vI fk, vI a, vI b, vI c] m (fun r m' => r = some (vI (FX12_felt m fk a b c).1) ∧ m' = (FX12_felt m fk a b c).2) := by
  refine qM.intro okX12_felt (Nat.le_of_ble_eq_true rfl) ?_
  refine j_aload_n rfl rfl ?_
  refine j_iload_n rfl rfl ?_
  refine j_callV (ci := 12) rfl okX12_isFelt c_X12_274 (ct_X12_isFelt hS hI (by omega) (by omega)) rfl rfl (hS.lt (by decide)) (hS.k (by decide) (by decide)) (by decide) rfl (Nat.le_of_ble_eq_true rfl) (by decide) (by decide) ?_
  rintro vq mq ⟨e1, e2⟩
  rw [e1, e2]
  clear e1 e2
  simp only [Option.toList_some, Option.toList_none, List.cons_append, List.nil_append]
  have w1 := hI.s 86 21 (0) 8 (by decide)
  refine j_bif_eq (tgt := 46) rfl (by decide) (fun hb5_1 => ?_) (fun hb5_1 => ?_)
  · skip
    refine j_iconst rfl ?_
    refine j_iret rfl rfl ?_ rfl (Nat.le_refl _)
    unfold FX12_felt
    rw [if_neg hb5_1]
    exact ⟨rfl, rfl⟩
  · skip
    refine j_iload_n rfl rfl ?_
    refine j_ldcw (v := -99999) rfl k_X12_277 ?_
    refine j_ldcw (v := 99999) rfl k_X12_273 ?_
    refine j_callS (As := [_, _, _]) rfl okX12_in c_X12_194 (ct_X12_in (by omega) (by omega) (by omega) (by omega) (by omega) (by omega)) rfl rfl (Nat.le_of_ble_eq_true rfl) (by decide) (by decide) ?_
    rintro vq mq ⟨e1, e2⟩
    rw [e1, e2]
    clear e1 e2
    simp only [Option.toList_some, Option.toList_none, List.cons_append, List.nil_append]
    refine j_bif_eq (tgt := 46) rfl (by decide) (fun hb18_1 => ?_) (fun hb18_1 => ?_)
    · skip
      refine j_iconst rfl ?_
      refine j_iret rfl rfl ?_ rfl (Nat.le_refl _)
      unfold FX12_felt
      rw [if_pos hb5_1, if_neg hb18_1]
      exact ⟨rfl, rfl⟩
    · skip
      refine j_iload_n rfl rfl ?_
      refine j_sipush rfl (by decide) ?_
      refine j_sipush rfl (by decide) ?_
      refine j_callS (As := [_, _, _]) rfl okX12_in c_X12_194 (ct_X12_in (by omega) (by omega) (by omega) (by omega) (by omega) (by omega)) rfl rfl (Nat.le_of_ble_eq_true rfl) (by decide) (by decide) ?_
      rintro vq mq ⟨e1, e2⟩
      rw [e1, e2]
      clear e1 e2
      simp only [Option.toList_some, Option.toList_none, List.cons_append, List.nil_append]
      refine j_bif_eq (tgt := 46) rfl (by decide) (fun hb31_1 => ?_) (fun hb31_1 => ?_)
      · skip
        refine j_iconst rfl ?_
        refine j_iret rfl rfl ?_ rfl (Nat.le_refl _)
        unfold FX12_felt
        rw [if_pos hb5_1, if_pos hb18_1, if_neg hb31_1]
        exact ⟨rfl, rfl⟩
      · skip
        refine j_iload rfl rfl ?_
        refine j_iconst rfl ?_
        refine j_ldcw (v := 99999) rfl k_X12_273 ?_
        refine j_callS (As := [_, _, _]) rfl okX12_in c_X12_194 (ct_X12_in (by omega) (by omega) (by omega) (by omega) (by omega) (by omega)) rfl rfl (Nat.le_of_ble_eq_true rfl) (by decide) (by decide) ?_
        rintro vq mq ⟨e1, e2⟩
        rw [e1, e2]
        clear e1 e2
        simp only [Option.toList_some, Option.toList_none, List.cons_append, List.nil_append]
        refine j_bif_ne (tgt := 48) rfl (by decide) (fun hb43_1 => ?_) (fun hb43_1 => ?_)
        · skip
          refine j_iconst rfl ?_
          refine j_iload_n rfl rfl ?_
          refine j_bipush rfl (by decide) ?_
          refine j_idivN rfl (by omega) (by omega) (by omega) (by omega) ?_
          refine j_imul rfl ?_
          refine j_iload_n rfl rfl ?_
          refine j_bipush rfl (by decide) ?_
          refine j_iremN rfl (by omega) (by omega) (by omega) (by omega) ?_
          refine j_iadd rfl ?_
          refine j_istore rfl (by decide) ?_
          refine j_aload_n rfl rfl ?_
          refine j_getR (q := 101) rfl f_X12_54 rfl (hS.lt (by decide)) (hS.k (by decide) (by decide)) (hS.r (by decide)) ?_
          refine j_iload rfl rfl ?_
          refine j_iload_n rfl rfl ?_
          refine j_iast (n := 24) rfl (hS.lt (by decide)) (hS.k (by decide) (by decide)) (hS.n (by decide) (by decide)) (by omega) (by omega) (by first | decide | omega) ?_
          refine j_aload_n rfl rfl ?_
          refine j_getR (q := 102) rfl f_X12_57 rfl (hS.lt (by decide)) (hS.k (by decide) (by decide)) (hS.r (by decide)) ?_
          refine j_iload rfl rfl ?_
          refine j_iload_n rfl rfl ?_
          refine j_iast (n := 24) rfl (hS.lt (by decide)) (hS.k (by decide) (by decide)) (hS.n (by decide) (by decide)) (by omega) (by omega) (by first | decide | omega) ?_
          refine j_aload_n rfl rfl ?_
          refine j_getR (q := 103) rfl f_X12_60 rfl (hS.lt (by decide)) (hS.k (by decide) (by decide)) (hS.r (by decide)) ?_
          refine j_iload rfl rfl ?_
          refine j_iload rfl rfl ?_
          refine j_iast (n := 24) rfl (hS.lt (by decide)) (hS.k (by decide) (by decide)) (hS.n (by decide) (by decide)) (by omega) (by omega) (by first | decide | omega) ?_
          refine j_iconst rfl ?_
          refine j_iret rfl rfl ?_ rfl (Nat.le_refl _)
          unfold FX12_felt
          rw [if_pos hb5_1, if_pos hb18_1, if_pos hb31_1, if_pos hb43_1]
          exact ⟨rfl, rfl⟩
        · skip
          refine j_iconst rfl ?_
          refine j_iret rfl rfl ?_ rfl (Nat.le_refl _)
          unfold FX12_felt
          rw [if_pos hb5_1, if_pos hb18_1, if_pos hb31_1, if_neg hb43_1]
          exact ⟨rfl, rfl⟩

def FX12_heldBy (m : AM) (v : Int) (most : Int) : Int :=
  if v ≥ (-most) then
    if v ≤ most then
      v
    else
      most
  else
    -most
set_option maxRecDepth 20000 in
set_option maxHeartbeats 4000000 in
theorem ct_X12_heldBy {G : QW} {m : AM} {v : Int} {most : Int} (hv1 : -2147483648 ≤ v) (hv2 : v < 2147483648) (hmost1 : -2147483648 ≤ most) (hmost2 : most < 2147483648) (h3 : -2147483648 < most) : qM G mX12_heldBy 0 0 0 [vI v, vI most] m (fun r m' => r = some (vI (FX12_heldBy m v most)) ∧ m' = m) := by
  refine qM.intro okX12_heldBy (Nat.le_of_ble_eq_true rfl) ?_
  refine j_iload_n rfl rfl ?_
  refine j_iload_n rfl rfl ?_
  refine j_ineg rfl ?_
  refine j_icmp_ge (tgt := 11) rfl (by decide) (by omega) (by omega) (by omega) (by omega) (fun hb3_1 => ?_) (fun hb3_1 => ?_)
  · skip
    refine j_iload_n rfl rfl ?_
    refine j_iload_n rfl rfl ?_
    refine j_icmp_le (tgt := 20) rfl (by decide) (by omega) (by omega) (by omega) (by omega) (fun hb13_1 => ?_) (fun hb13_1 => ?_)
    · skip
      refine j_iload_n rfl rfl ?_
      refine j_iret rfl rfl ?_ rfl (Nat.le_refl _)
      unfold FX12_heldBy
      rw [if_pos hb3_1, if_pos hb13_1]
      exact ⟨rfl, rfl⟩
    · skip
      refine j_iload_n rfl rfl ?_
      refine j_goto (tgt := 21) rfl (by decide) ?_
      refine j_iret rfl rfl ?_ rfl (Nat.le_refl _)
      unfold FX12_heldBy
      rw [if_pos hb3_1, if_neg hb13_1]
      exact ⟨rfl, rfl⟩
  · skip
    refine j_iload_n rfl rfl ?_
    refine j_ineg rfl ?_
    refine j_goto (tgt := 21) rfl (by decide) ?_
    refine j_iret rfl rfl ?_ rfl (Nat.le_refl _)
    unfold FX12_heldBy
    rw [if_neg hb3_1]
    exact ⟨rfl, rfl⟩

def FX12_ofRun (m : AM) (b : Int) (what : Int) : Int :=
  if (mi m 86 50) = 0 then
    (-2000000000)
  else
    if 0 ≤ b ∧ b ≤ ((mi m 86 51) - 1) then
      if 0 ≤ what ∧ what ≤ 7 then
        mi m 116 ((8 * b) + what).toNat
      else
        if 10 ≤ what ∧ what ≤ 13 then
          if (mi m 118 (((4 * b) + what) - 10).toNat) ≤ 0 then
            mi m 117 (((4 * b) + what) - 10).toNat
          else
            (-2000000000)
        else
          if 20 ≤ what ∧ what ≤ 23 then
            mi m 118 (((4 * b) + what) - 20).toNat
          else
            if what ≠ 30 then
              if what ≠ 31 then
                if what ≠ 32 then
                  (-2000000000)
                else
                  mi m 121 b.toNat
              else
                mi m 120 b.toNat
            else
              if (mi m 119 b.toNat) = 0 then
                0
              else
                1
    else
      (-2000000000)
set_option maxRecDepth 20000 in
set_option maxHeartbeats 4000000 in
theorem ct_X12_ofRun {G : QW} {m : AM} (hS : St m) (hI : IM m) {b : Int} {what : Int} (hb1 : -2147483648 ≤ b) (hb2 : b < 2147483648) (hwhat1 : -2147483648 ≤ what) (hwhat2 : what < 2147483648) : qM G mX12_ofRun 1 0 0 [vR 86, vI b, vI what] m (fun r m' => r = some (vI (FX12_ofRun m b what)) ∧ m' = m) := by
  refine qM.intro okX12_ofRun (Nat.le_of_ble_eq_true rfl) ?_
  refine j_aload_n rfl rfl ?_
  refine j_getI rfl f_X12_392 rfl (hS.lt (by decide)) (hS.k (by decide) (by decide)) ?_
  have u1_1 := hI.s 86 50 (0) 1 (by decide)
  refine j_if_eq (tgt := 21) rfl (by decide) (by omega) (by omega) (fun hb4_1 => ?_) (fun hb4_1 => ?_)
  · skip
    refine j_ldc (v := -2000000000) rfl k_X12_202 ?_
    refine j_iret rfl rfl ?_ rfl (Nat.le_refl _)
    unfold FX12_ofRun
    rw [if_pos hb4_1]
    exact ⟨rfl, rfl⟩
  · skip
    refine j_iload_n rfl rfl ?_
    refine j_iconst rfl ?_
    refine j_aload_n rfl rfl ?_
    refine j_getI rfl f_X12_396 rfl (hS.lt (by decide)) (hS.k (by decide) (by decide)) ?_
    have u10_1 := hI.s 86 51 (0) 6 (by decide)
    refine j_iconst rfl ?_
    refine j_isub rfl ?_
    refine j_callS (As := [_, _, _]) rfl okX12_in c_X12_194 (ct_X12_in (by omega) (by omega) (by omega) (by omega) (by omega) (by omega)) rfl rfl (Nat.le_of_ble_eq_true rfl) (by decide) (by decide) ?_
    rintro vq mq ⟨e1, e2⟩
    rw [e1, e2]
    clear e1 e2
    simp only [Option.toList_some, Option.toList_none, List.cons_append, List.nil_append]
    have w1 := hI.s 86 51 (0) 6 (by decide)
    refine j_bif_ne (tgt := 24) rfl (by decide) (fun hb18_1 => ?_) (fun hb18_1 => ?_)
    · skip
      refine j_iload_n rfl rfl ?_
      refine j_iconst rfl ?_
      refine j_bipush rfl (by decide) ?_
      refine j_callS (As := [_, _, _]) rfl okX12_in c_X12_194 (ct_X12_in (by omega) (by omega) (by omega) (by omega) (by omega) (by omega)) rfl rfl (Nat.le_of_ble_eq_true rfl) (by decide) (by decide) ?_
      rintro vq mq ⟨e1, e2⟩
      rw [e1, e2]
      clear e1 e2
      simp only [Option.toList_some, Option.toList_none, List.cons_append, List.nil_append]
      refine j_bif_eq (tgt := 46) rfl (by decide) (fun hb31_1 => ?_) (fun hb31_1 => ?_)
      · skip
        refine j_iload_n rfl rfl ?_
        refine j_bipush rfl (by decide) ?_
        refine j_bipush rfl (by decide) ?_
        refine j_callS (As := [_, _, _]) rfl okX12_in c_X12_194 (ct_X12_in (by omega) (by omega) (by omega) (by omega) (by omega) (by omega)) rfl rfl (Nat.le_of_ble_eq_true rfl) (by decide) (by decide) ?_
        rintro vq mq ⟨e1, e2⟩
        rw [e1, e2]
        clear e1 e2
        simp only [Option.toList_some, Option.toList_none, List.cons_append, List.nil_append]
        refine j_bif_eq (tgt := 92) rfl (by decide) (fun hb54_1 => ?_) (fun hb54_1 => ?_)
        · skip
          refine j_iload_n rfl rfl ?_
          refine j_bipush rfl (by decide) ?_
          refine j_bipush rfl (by decide) ?_
          refine j_callS (As := [_, _, _]) rfl okX12_in c_X12_194 (ct_X12_in (by omega) (by omega) (by omega) (by omega) (by omega) (by omega)) rfl rfl (Nat.le_of_ble_eq_true rfl) (by decide) (by decide) ?_
          rintro vq mq ⟨e1, e2⟩
          rw [e1, e2]
          clear e1 e2
          simp only [Option.toList_some, Option.toList_none, List.cons_append, List.nil_append]
          refine j_bif_eq (tgt := 117) rfl (by decide) (fun hb100_1 => ?_) (fun hb100_1 => ?_)
          · skip
            refine j_iload_n rfl rfl ?_
            refine j_bipush rfl (by decide) ?_
            refine j_icmp_ne (tgt := 140) rfl (by decide) (by omega) (by omega) (by omega) (by omega) (fun hb120_1 => ?_) (fun hb120_1 => ?_)
            · skip
              refine j_iload_n rfl rfl ?_
              refine j_bipush rfl (by decide) ?_
              refine j_icmp_ne (tgt := 155) rfl (by decide) (by omega) (by omega) (by omega) (by omega) (fun hb143_1 => ?_) (fun hb143_1 => ?_)
              · skip
                refine j_iload_n rfl rfl ?_
                refine j_bipush rfl (by decide) ?_
                refine j_icmp_ne (tgt := 170) rfl (by decide) (by omega) (by omega) (by omega) (by omega) (fun hb158_1 => ?_) (fun hb158_1 => ?_)
                · skip
                  refine j_ldc (v := -2000000000) rfl k_X12_202 ?_
                  refine j_iret rfl rfl ?_ rfl (Nat.le_refl _)
                  unfold FX12_ofRun
                  rw [if_neg hb4_1, if_pos hb18_1, if_neg hb31_1, if_neg hb54_1, if_neg hb100_1, if_pos hb120_1, if_pos hb143_1, if_pos hb158_1]
                  exact ⟨rfl, rfl⟩
                · skip
                  refine j_aload_n rfl rfl ?_
                  refine j_getR (q := 121) rfl f_X12_115 rfl (hS.lt (by decide)) (hS.k (by decide) (by decide)) (hS.r (by decide)) ?_
                  refine j_iload_n rfl rfl ?_
                  refine j_iald (n := 6) rfl (hS.lt (by decide)) (hS.k (by decide) (by decide)) (hS.n (by decide) (by decide)) (by omega) (by omega) (by decide) ?_
                  have u166_1 := mi_rng m 121 b.toNat
                  refine j_goto (tgt := 172) rfl (by decide) ?_
                  refine j_iret rfl rfl ?_ rfl (Nat.le_refl _)
                  unfold FX12_ofRun
                  rw [if_neg hb4_1, if_pos hb18_1, if_neg hb31_1, if_neg hb54_1, if_neg hb100_1, if_pos hb120_1, if_pos hb143_1, if_neg (not_not_intro hb158_1)]
                  exact ⟨rfl, rfl⟩
              · skip
                refine j_aload_n rfl rfl ?_
                refine j_getR (q := 120) rfl f_X12_112 rfl (hS.lt (by decide)) (hS.k (by decide) (by decide)) (hS.r (by decide)) ?_
                refine j_iload_n rfl rfl ?_
                refine j_iald (n := 6) rfl (hS.lt (by decide)) (hS.k (by decide) (by decide)) (hS.n (by decide) (by decide)) (by omega) (by omega) (by decide) ?_
                have u151_1 := hI.a 120 (-1) 200 (by decide) b.toNat
                refine j_goto (tgt := 172) rfl (by decide) ?_
                refine j_iret rfl rfl ?_ rfl (Nat.le_refl _)
                unfold FX12_ofRun
                rw [if_neg hb4_1, if_pos hb18_1, if_neg hb31_1, if_neg hb54_1, if_neg hb100_1, if_pos hb120_1, if_neg (not_not_intro hb143_1)]
                exact ⟨rfl, rfl⟩
            · skip
              refine j_aload_n rfl rfl ?_
              refine j_getR (q := 119) rfl f_X12_109 rfl (hS.lt (by decide)) (hS.k (by decide) (by decide)) (hS.r (by decide)) ?_
              refine j_iload_n rfl rfl ?_
              refine j_zald (n := 6) rfl (hS.lt (by decide)) (hS.k (by decide) (by decide)) (hS.n (by decide) (by decide)) (by omega) (by omega) (by decide) ?_
              have u128_1 := hI.a 119 (0) 1 (by decide) b.toNat
              refine j_if_eq (tgt := 136) rfl (by decide) (by omega) (by omega) (fun hb129_1 => ?_) (fun hb129_1 => ?_)
              · skip
                refine j_iconst rfl ?_
                refine j_goto (tgt := 172) rfl (by decide) ?_
                refine j_iret rfl rfl ?_ rfl (Nat.le_refl _)
                unfold FX12_ofRun
                rw [if_neg hb4_1, if_pos hb18_1, if_neg hb31_1, if_neg hb54_1, if_neg hb100_1, if_neg (not_not_intro hb120_1), if_pos hb129_1]
                exact ⟨rfl, rfl⟩
              · skip
                refine j_iconst rfl ?_
                refine j_goto (tgt := 172) rfl (by decide) ?_
                refine j_iret rfl rfl ?_ rfl (Nat.le_refl _)
                unfold FX12_ofRun
                rw [if_neg hb4_1, if_pos hb18_1, if_neg hb31_1, if_neg hb54_1, if_neg hb100_1, if_neg (not_not_intro hb120_1), if_neg hb129_1]
                exact ⟨rfl, rfl⟩
          · skip
            refine j_aload_n rfl rfl ?_
            refine j_getR (q := 118) rfl f_X12_106 rfl (hS.lt (by decide)) (hS.k (by decide) (by decide)) (hS.r (by decide)) ?_
            refine j_iconst rfl ?_
            refine j_iload_n rfl rfl ?_
            refine j_imul rfl ?_
            refine j_iload_n rfl rfl ?_
            refine j_iadd rfl ?_
            refine j_bipush rfl (by decide) ?_
            refine j_isub rfl ?_
            refine j_iald (n := 24) rfl (hS.lt (by decide)) (hS.k (by decide) (by decide)) (hS.n (by decide) (by decide)) (by omega) (by omega) (by decide) ?_
            have u115_1 := hI.a 118 (0) 10 (by decide) (((4 * b) + what) - 20).toNat
            refine j_iret rfl rfl ?_ rfl (Nat.le_refl _)
            unfold FX12_ofRun
            rw [if_neg hb4_1, if_pos hb18_1, if_neg hb31_1, if_neg hb54_1, if_pos hb100_1]
            exact ⟨rfl, rfl⟩
        · skip
          refine j_aload_n rfl rfl ?_
          refine j_getR (q := 118) rfl f_X12_106 rfl (hS.lt (by decide)) (hS.k (by decide) (by decide)) (hS.r (by decide)) ?_
          refine j_iconst rfl ?_
          refine j_iload_n rfl rfl ?_
          refine j_imul rfl ?_
          refine j_iload_n rfl rfl ?_
          refine j_iadd rfl ?_
          refine j_bipush rfl (by decide) ?_
          refine j_isub rfl ?_
          refine j_iald (n := 24) rfl (hS.lt (by decide)) (hS.k (by decide) (by decide)) (hS.n (by decide) (by decide)) (by omega) (by omega) (by decide) ?_
          have u69_1 := hI.a 118 (0) 10 (by decide) (((4 * b) + what) - 10).toNat
          refine j_if_le (tgt := 78) rfl (by decide) (by omega) (by omega) (fun hb70_1 => ?_) (fun hb70_1 => ?_)
          · skip
            refine j_aload_n rfl rfl ?_
            refine j_getR (q := 117) rfl f_X12_103 rfl (hS.lt (by decide)) (hS.k (by decide) (by decide)) (hS.r (by decide)) ?_
            refine j_iconst rfl ?_
            refine j_iload_n rfl rfl ?_
            refine j_imul rfl ?_
            refine j_iload_n rfl rfl ?_
            refine j_iadd rfl ?_
            refine j_bipush rfl (by decide) ?_
            refine j_isub rfl ?_
            refine j_iald (n := 24) rfl (hS.lt (by decide)) (hS.k (by decide) (by decide)) (hS.n (by decide) (by decide)) (by omega) (by omega) (by decide) ?_
            have u90_1 := hI.a 117 (-1000000) 1000000 (by decide) (((4 * b) + what) - 10).toNat
            refine j_iret rfl rfl ?_ rfl (Nat.le_refl _)
            unfold FX12_ofRun
            rw [if_neg hb4_1, if_pos hb18_1, if_neg hb31_1, if_pos hb54_1, if_pos hb70_1]
            exact ⟨rfl, rfl⟩
          · skip
            refine j_ldc (v := -2000000000) rfl k_X12_202 ?_
            refine j_goto (tgt := 91) rfl (by decide) ?_
            refine j_iret rfl rfl ?_ rfl (Nat.le_refl _)
            unfold FX12_ofRun
            rw [if_neg hb4_1, if_pos hb18_1, if_neg hb31_1, if_pos hb54_1, if_neg hb70_1]
            exact ⟨rfl, rfl⟩
      · skip
        refine j_aload_n rfl rfl ?_
        refine j_getR (q := 116) rfl f_X12_100 rfl (hS.lt (by decide)) (hS.k (by decide) (by decide)) (hS.r (by decide)) ?_
        refine j_bipush rfl (by decide) ?_
        refine j_iload_n rfl rfl ?_
        refine j_imul rfl ?_
        refine j_iload_n rfl rfl ?_
        refine j_iadd rfl ?_
        refine j_iald (n := 48) rfl (hS.lt (by decide)) (hS.k (by decide) (by decide)) (hS.n (by decide) (by decide)) (by omega) (by omega) (by decide) ?_
        have u44_1 := hI.a 116 (-1000000) 1000000 (by decide) ((8 * b) + what).toNat
        refine j_iret rfl rfl ?_ rfl (Nat.le_refl _)
        unfold FX12_ofRun
        rw [if_neg hb4_1, if_pos hb18_1, if_pos hb31_1]
        exact ⟨rfl, rfl⟩
    · skip
      refine j_ldc (v := -2000000000) rfl k_X12_202 ?_
      refine j_iret rfl rfl ?_ rfl (Nat.le_refl _)
      unfold FX12_ofRun
      rw [if_neg hb4_1, if_neg hb18_1]
      exact ⟨rfl, rfl⟩

def FX12_firstFault (m : AM) (what : Int) : Int :=
  if (mi m 86 50) = 0 then
    (-1)
  else
    if 0 ≤ what ∧ what ≤ 3 then
      if (mi m 122 (0 : Int).toNat) ≥ 0 then
        mi m 122 what.toNat
      else
        (-2)
    else
      (-1)
set_option maxRecDepth 20000 in
set_option maxHeartbeats 4000000 in
theorem ct_X12_firstFault {G : QW} {m : AM} (hS : St m) (hI : IM m) {what : Int} (hwhat1 : -2147483648 ≤ what) (hwhat2 : what < 2147483648) : qM G mX12_firstFault 1 0 0 [vR 86, vI what] m (fun r m' => r = some (vI (FX12_firstFault m what)) ∧ m' = m) := by
  refine qM.intro okX12_firstFault (Nat.le_of_ble_eq_true rfl) ?_
  refine j_aload_n rfl rfl ?_
  refine j_getI rfl f_X12_392 rfl (hS.lt (by decide)) (hS.k (by decide) (by decide)) ?_
  have u1_1 := hI.s 86 50 (0) 1 (by decide)
  refine j_if_eq (tgt := 16) rfl (by decide) (by omega) (by omega) (fun hb4_1 => ?_) (fun hb4_1 => ?_)
  · skip
    refine j_iconst rfl ?_
    refine j_iret rfl rfl ?_ rfl (Nat.le_refl _)
    unfold FX12_firstFault
    rw [if_pos hb4_1]
    exact ⟨rfl, rfl⟩
  · skip
    refine j_iload_n rfl rfl ?_
    refine j_iconst rfl ?_
    refine j_iconst rfl ?_
    refine j_callS (As := [_, _, _]) rfl okX12_in c_X12_194 (ct_X12_in (by omega) (by omega) (by omega) (by omega) (by omega) (by omega)) rfl rfl (Nat.le_of_ble_eq_true rfl) (by decide) (by decide) ?_
    rintro vq mq ⟨e1, e2⟩
    rw [e1, e2]
    clear e1 e2
    simp only [Option.toList_some, Option.toList_none, List.cons_append, List.nil_append]
    refine j_bif_ne (tgt := 18) rfl (by decide) (fun hb13_1 => ?_) (fun hb13_1 => ?_)
    · skip
      refine j_aload_n rfl rfl ?_
      refine j_getR (q := 122) rfl f_X12_118 rfl (hS.lt (by decide)) (hS.k (by decide) (by decide)) (hS.r (by decide)) ?_
      refine j_iconst rfl ?_
      refine j_iald (n := 4) rfl (hS.lt (by decide)) (hS.k (by decide) (by decide)) (hS.n (by decide) (by decide)) (by omega) (by omega) (by decide) ?_
      have u23_1 := hI.a 122 (-1) 200 (by decide) (0 : Int).toNat
      refine j_if_ge (tgt := 32) rfl (by decide) (by omega) (by omega) (fun hb24_1 => ?_) (fun hb24_1 => ?_)
      · skip
        refine j_aload_n rfl rfl ?_
        refine j_getR (q := 122) rfl f_X12_118 rfl (hS.lt (by decide)) (hS.k (by decide) (by decide)) (hS.r (by decide)) ?_
        refine j_iload_n rfl rfl ?_
        refine j_iald (n := 4) rfl (hS.lt (by decide)) (hS.k (by decide) (by decide)) (hS.n (by decide) (by decide)) (by omega) (by omega) (by decide) ?_
        have u37_1 := hI.a 122 (-1) 200 (by decide) what.toNat
        refine j_iret rfl rfl ?_ rfl (Nat.le_refl _)
        unfold FX12_firstFault
        rw [if_neg hb4_1, if_pos hb13_1, if_pos hb24_1]
        exact ⟨rfl, rfl⟩
      · skip
        refine j_bipush rfl (by decide) ?_
        refine j_goto (tgt := 38) rfl (by decide) ?_
        refine j_iret rfl rfl ?_ rfl (Nat.le_refl _)
        unfold FX12_firstFault
        rw [if_neg hb4_1, if_pos hb13_1, if_neg hb24_1]
        exact ⟨rfl, rfl⟩
    · skip
      refine j_iconst rfl ?_
      refine j_iret rfl rfl ?_ rfl (Nat.le_refl _)
      unfold FX12_firstFault
      rw [if_neg hb4_1, if_neg hb13_1]
      exact ⟨rfl, rfl⟩

def FX12_span (m : AM) (mk0 : Int) (low : Int) (high : Int) : Int × AM :=
  if mk0 < 0 then
    ((-1), m)
  else
    if 0 ≤ (mk0 / 10) ∧ (mk0 / 10) ≤ 1 then
      if 0 ≤ (mk0 % 10) ∧ (mk0 % 10) ≤ 2 then
        if (-99999) ≤ low ∧ low ≤ 99999 then
          if low ≤ high ∧ high ≤ 99999 then
            (1, (si (si m 123 ((3 * (mk0 / 10)) + (mk0 % 10)).toNat low) 124 ((3 * (mk0 / 10)) + (mk0 % 10)).toNat high))
          else
            ((-1), m)
        else
          ((-1), m)
      else
        ((-1), m)
    else
      ((-1), m)
set_option maxRecDepth 20000 in
set_option maxHeartbeats 4000000 in
theorem ct_X12_span {G : QW} {m : AM} (hS : St m) (hI : IM m) {mk0 : Int} {low : Int} {high : Int} (hmk01 : -2147483648 ≤ mk0) (hmk02 : mk0 < 2147483648) (hlow1 : -2147483648 ≤ low) (hlow2 : low < 2147483648) (hhigh1 : -2147483648 ≤ high) (hhigh2 : high < 2147483648) : qM G mX12_span 2 0 0 [vR 86, vI mk0, vI low, vI high] m (fun r m' => r = some (vI (FX12_span m mk0 low high).1) ∧ m' = (FX12_span m mk0 low high).2) := by
  refine qM.intro okX12_span (Nat.le_of_ble_eq_true rfl) ?_
  refine j_iload_n rfl rfl ?_
  refine j_if_lt (tgt := 50) rfl (by decide) (by omega) (by omega) (fun hb1_1 => ?_) (fun hb1_1 => ?_)
  · skip
    refine j_iconst rfl ?_
    refine j_iret rfl rfl ?_ rfl (Nat.le_refl _)
    unfold FX12_span
    rw [if_pos hb1_1]
    exact ⟨rfl, rfl⟩
  · skip
    refine j_iload_n rfl rfl ?_
    refine j_bipush rfl (by decide) ?_
    refine j_idivN rfl (by omega) (by omega) (by omega) (by omega) ?_
    refine j_callS (As := [_]) rfl okX12_isMachine c_X12_399 (ct_X12_isMachine (by omega) (by omega)) rfl rfl (Nat.le_of_ble_eq_true rfl) (by decide) (by decide) ?_
    rintro vq mq ⟨e1, e2⟩
    rw [e1, e2]
    clear e1 e2
    simp only [Option.toList_some, Option.toList_none, List.cons_append, List.nil_append]
    refine j_bif_eq (tgt := 50) rfl (by decide) (fun hb11_1 => ?_) (fun hb11_1 => ?_)
    · skip
      refine j_iconst rfl ?_
      refine j_iret rfl rfl ?_ rfl (Nat.le_refl _)
      unfold FX12_span
      rw [if_neg hb1_1, if_neg hb11_1]
      exact ⟨rfl, rfl⟩
    · skip
      refine j_iload_n rfl rfl ?_
      refine j_bipush rfl (by decide) ?_
      refine j_iremN rfl (by omega) (by omega) (by omega) (by omega) ?_
      refine j_iconst rfl ?_
      refine j_iconst rfl ?_
      refine j_callS (As := [_, _, _]) rfl okX12_in c_X12_194 (ct_X12_in (by omega) (by omega) (by omega) (by omega) (by omega) (by omega)) rfl rfl (Nat.le_of_ble_eq_true rfl) (by decide) (by decide) ?_
      rintro vq mq ⟨e1, e2⟩
      rw [e1, e2]
      clear e1 e2
      simp only [Option.toList_some, Option.toList_none, List.cons_append, List.nil_append]
      refine j_bif_eq (tgt := 50) rfl (by decide) (fun hb23_1 => ?_) (fun hb23_1 => ?_)
      · skip
        refine j_iconst rfl ?_
        refine j_iret rfl rfl ?_ rfl (Nat.le_refl _)
        unfold FX12_span
        rw [if_neg hb1_1, if_pos hb11_1, if_neg hb23_1]
        exact ⟨rfl, rfl⟩
      · skip
        refine j_iload_n rfl rfl ?_
        refine j_ldcw (v := -99999) rfl k_X12_277 ?_
        refine j_ldcw (v := 99999) rfl k_X12_273 ?_
        refine j_callS (As := [_, _, _]) rfl okX12_in c_X12_194 (ct_X12_in (by omega) (by omega) (by omega) (by omega) (by omega) (by omega)) rfl rfl (Nat.le_of_ble_eq_true rfl) (by decide) (by decide) ?_
        rintro vq mq ⟨e1, e2⟩
        rw [e1, e2]
        clear e1 e2
        simp only [Option.toList_some, Option.toList_none, List.cons_append, List.nil_append]
        refine j_bif_eq (tgt := 50) rfl (by decide) (fun hb36_1 => ?_) (fun hb36_1 => ?_)
        · skip
          refine j_iconst rfl ?_
          refine j_iret rfl rfl ?_ rfl (Nat.le_refl _)
          unfold FX12_span
          rw [if_neg hb1_1, if_pos hb11_1, if_pos hb23_1, if_neg hb36_1]
          exact ⟨rfl, rfl⟩
        · skip
          refine j_iload_n rfl rfl ?_
          refine j_iload_n rfl rfl ?_
          refine j_ldcw (v := 99999) rfl k_X12_273 ?_
          refine j_callS (As := [_, _, _]) rfl okX12_in c_X12_194 (ct_X12_in (by omega) (by omega) (by omega) (by omega) (by omega) (by omega)) rfl rfl (Nat.le_of_ble_eq_true rfl) (by decide) (by decide) ?_
          rintro vq mq ⟨e1, e2⟩
          rw [e1, e2]
          clear e1 e2
          simp only [Option.toList_some, Option.toList_none, List.cons_append, List.nil_append]
          refine j_bif_ne (tgt := 52) rfl (by decide) (fun hb47_1 => ?_) (fun hb47_1 => ?_)
          · skip
            refine j_iconst rfl ?_
            refine j_iload_n rfl rfl ?_
            refine j_bipush rfl (by decide) ?_
            refine j_idivN rfl (by omega) (by omega) (by omega) (by omega) ?_
            refine j_imul rfl ?_
            refine j_iload_n rfl rfl ?_
            refine j_bipush rfl (by decide) ?_
            refine j_iremN rfl (by omega) (by omega) (by omega) (by omega) ?_
            refine j_iadd rfl ?_
            refine j_istore rfl (by decide) ?_
            refine j_aload_n rfl rfl ?_
            refine j_getR (q := 123) rfl f_X12_121 rfl (hS.lt (by decide)) (hS.k (by decide) (by decide)) (hS.r (by decide)) ?_
            refine j_iload rfl rfl ?_
            refine j_iload_n rfl rfl ?_
            refine j_iast (n := 6) rfl (hS.lt (by decide)) (hS.k (by decide) (by decide)) (hS.n (by decide) (by decide)) (by omega) (by omega) (by first | decide | omega) ?_
            refine j_aload_n rfl rfl ?_
            refine j_getR (q := 124) rfl f_X12_124 rfl (hS.lt (by decide)) (hS.k (by decide) (by decide)) (hS.r (by decide)) ?_
            refine j_iload rfl rfl ?_
            refine j_iload_n rfl rfl ?_
            refine j_iast (n := 6) rfl (hS.lt (by decide)) (hS.k (by decide) (by decide)) (hS.n (by decide) (by decide)) (by omega) (by omega) (by first | decide | omega) ?_
            refine j_iconst rfl ?_
            refine j_iret rfl rfl ?_ rfl (Nat.le_refl _)
            unfold FX12_span
            rw [if_neg hb1_1, if_pos hb11_1, if_pos hb23_1, if_pos hb36_1, if_pos hb47_1]
            exact ⟨rfl, rfl⟩
          · skip
            refine j_iconst rfl ?_
            refine j_iret rfl rfl ?_ rfl (Nat.le_refl _)
            unfold FX12_span
            rw [if_neg hb1_1, if_pos hb11_1, if_pos hb23_1, if_pos hb36_1, if_neg hb47_1]
            exact ⟨rfl, rfl⟩

def FX12_began (m : AM) (k : Int) : Int :=
  if (mi m 86 62) = 0 then
    (-2000000000)
  else
    if 0 ≤ k ∧ k ≤ 2 then
      mi m 125 k.toNat
    else
      (-2000000000)
set_option maxRecDepth 20000 in
set_option maxHeartbeats 4000000 in
theorem ct_X12_began {G : QW} {m : AM} (hS : St m) (hI : IM m) {k : Int} (hk1 : -2147483648 ≤ k) (hk2 : k < 2147483648) : qM G mX12_began 1 0 0 [vR 86, vI k] m (fun r m' => r = some (vI (FX12_began m k)) ∧ m' = m) := by
  refine qM.intro okX12_began (Nat.le_of_ble_eq_true rfl) ?_
  refine j_aload_n rfl rfl ?_
  refine j_getI rfl f_X12_408 rfl (hS.lt (by decide)) (hS.k (by decide) (by decide)) ?_
  have u1_1 := hI.s 86 62 (0) 1 (by decide)
  refine j_if_eq (tgt := 25) rfl (by decide) (by omega) (by omega) (fun hb4_1 => ?_) (fun hb4_1 => ?_)
  · skip
    refine j_ldc (v := -2000000000) rfl k_X12_202 ?_
    refine j_iret rfl rfl ?_ rfl (Nat.le_refl _)
    unfold FX12_began
    rw [if_pos hb4_1]
    exact ⟨rfl, rfl⟩
  · skip
    refine j_iload_n rfl rfl ?_
    refine j_iconst rfl ?_
    refine j_iconst rfl ?_
    refine j_callS (As := [_, _, _]) rfl okX12_in c_X12_194 (ct_X12_in (by omega) (by omega) (by omega) (by omega) (by omega) (by omega)) rfl rfl (Nat.le_of_ble_eq_true rfl) (by decide) (by decide) ?_
    rintro vq mq ⟨e1, e2⟩
    rw [e1, e2]
    clear e1 e2
    simp only [Option.toList_some, Option.toList_none, List.cons_append, List.nil_append]
    refine j_bif_eq (tgt := 25) rfl (by decide) (fun hb13_1 => ?_) (fun hb13_1 => ?_)
    · skip
      refine j_ldc (v := -2000000000) rfl k_X12_202 ?_
      refine j_iret rfl rfl ?_ rfl (Nat.le_refl _)
      unfold FX12_began
      rw [if_neg hb4_1, if_neg hb13_1]
      exact ⟨rfl, rfl⟩
    · skip
      refine j_aload_n rfl rfl ?_
      refine j_getR (q := 125) rfl f_X12_127 rfl (hS.lt (by decide)) (hS.k (by decide) (by decide)) (hS.r (by decide)) ?_
      refine j_iload_n rfl rfl ?_
      refine j_iald (n := 3) rfl (hS.lt (by decide)) (hS.k (by decide) (by decide)) (hS.n (by decide) (by decide)) (by omega) (by omega) (by decide) ?_
      have u21_1 := hI.a 125 (-99999) 99999 (by decide) k.toNat
      refine j_goto (tgt := 27) rfl (by decide) ?_
      refine j_iret rfl rfl ?_ rfl (Nat.le_refl _)
      unfold FX12_began
      rw [if_neg hb4_1, if_pos hb13_1]
      exact ⟨rfl, rfl⟩

def FX12_keep (m : AM) (s : Int) (b : Int) : Int × AM :=
  if 0 ≤ s ∧ s ≤ 5 then
    if b = (-1) then
      (1, (si m 139 s.toNat b))
    else
      if 0 ≤ b ∧ b < mi m 86 1 then
        (1, (si m 139 s.toNat b))
      else
        ((-1), m)
  else
    ((-1), m)
set_option maxRecDepth 20000 in
set_option maxHeartbeats 4000000 in
theorem ct_X12_keep {G : QW} {m : AM} (hS : St m) (hI : IM m) {s : Int} {b : Int} (hs1 : -2147483648 ≤ s) (hs2 : s < 2147483648) (hb1 : -2147483648 ≤ b) (hb2 : b < 2147483648) : qM G mX12_keep 2 0 0 [vR 86, vI s, vI b] m (fun r m' => r = some (vI (FX12_keep m s b).1) ∧ m' = (FX12_keep m s b).2) := by
  refine qM.intro okX12_keep (Nat.le_of_ble_eq_true rfl) ?_
  refine j_iload_n rfl rfl ?_
  refine j_callS (As := [_]) rfl okX12_isShelf c_X12_278 (ct_X12_isShelf (by omega) (by omega)) rfl rfl (Nat.le_of_ble_eq_true rfl) (by decide) (by decide) ?_
  rintro vq mq ⟨e1, e2⟩
  rw [e1, e2]
  clear e1 e2
  simp only [Option.toList_some, Option.toList_none, List.cons_append, List.nil_append]
  refine j_bif_eq (tgt := 20) rfl (by decide) (fun hb4_1 => ?_) (fun hb4_1 => ?_)
  · skip
    refine j_iconst rfl ?_
    refine j_iret rfl rfl ?_ rfl (Nat.le_refl _)
    unfold FX12_keep
    rw [if_neg hb4_1]
    exact ⟨rfl, rfl⟩
  · skip
    refine j_iload_n rfl rfl ?_
    refine j_iconst rfl ?_
    refine j_icmp_eq (tgt := 22) rfl (by decide) (by omega) (by omega) (by omega) (by omega) (fun hb9_1 => ?_) (fun hb9_1 => ?_)
    · skip
      refine j_aload_n rfl rfl ?_
      refine j_getR (q := 139) rfl f_X12_169 rfl (hS.lt (by decide)) (hS.k (by decide) (by decide)) (hS.r (by decide)) ?_
      refine j_iload_n rfl rfl ?_
      refine j_iload_n rfl rfl ?_
      refine j_iast (n := 6) rfl (hS.lt (by decide)) (hS.k (by decide) (by decide)) (hS.n (by decide) (by decide)) (by omega) (by omega) (by first | decide | omega) ?_
      refine j_iconst rfl ?_
      refine j_iret rfl rfl ?_ rfl (Nat.le_refl _)
      unfold FX12_keep
      rw [if_pos hb4_1, if_pos hb9_1]
      exact ⟨rfl, rfl⟩
    · skip
      refine j_aload_n rfl rfl ?_
      refine j_iload_n rfl rfl ?_
      refine j_callV (ci := 12) rfl okX12_isBox c_X12_198 (ct_X12_isBox hS hI (by omega) (by omega)) rfl rfl (hS.lt (by decide)) (hS.k (by decide) (by decide)) (by decide) rfl (Nat.le_of_ble_eq_true rfl) (by decide) (by decide) ?_
      rintro vq mq ⟨e1, e2⟩
      rw [e1, e2]
      clear e1 e2
      simp only [Option.toList_some, Option.toList_none, List.cons_append, List.nil_append]
      have w1 := hI.s 86 1 (0) 6 (by decide)
      refine j_bif_ne (tgt := 22) rfl (by decide) (fun hb17_1 => ?_) (fun hb17_1 => ?_)
      · skip
        refine j_aload_n rfl rfl ?_
        refine j_getR (q := 139) rfl f_X12_169 rfl (hS.lt (by decide)) (hS.k (by decide) (by decide)) (hS.r (by decide)) ?_
        refine j_iload_n rfl rfl ?_
        refine j_iload_n rfl rfl ?_
        refine j_iast (n := 6) rfl (hS.lt (by decide)) (hS.k (by decide) (by decide)) (hS.n (by decide) (by decide)) (by omega) (by omega) (by first | decide | omega) ?_
        refine j_iconst rfl ?_
        refine j_iret rfl rfl ?_ rfl (Nat.le_refl _)
        unfold FX12_keep
        rw [if_pos hb4_1, if_neg hb9_1, if_pos hb17_1]
        exact ⟨rfl, rfl⟩
      · skip
        refine j_iconst rfl ?_
        refine j_iret rfl rfl ?_ rfl (Nat.le_refl _)
        unfold FX12_keep
        rw [if_pos hb4_1, if_neg hb9_1, if_neg hb17_1]
        exact ⟨rfl, rfl⟩

def FX12_whyNoPlace (m : AM) (s : Int) (i : Int) : Int :=
  if 0 ≤ s ∧ s ≤ 5 then
    if (mi m 139 s.toNat) ≠ (-1) then
      if (mi m 139 s.toNat) < 0 then
        if 0 ≤ i ∧ i ≤ ((mi m 140 s.toNat) - 1) then
          0
        else
          (-13)
      else
        (-12)
    else
      (-11)
  else
    (-1)
set_option maxRecDepth 20000 in
set_option maxHeartbeats 4000000 in
theorem ct_X12_whyNoPlace {G : QW} {m : AM} (hS : St m) (hI : IM m) {s : Int} {i : Int} (hs1 : -2147483648 ≤ s) (hs2 : s < 2147483648) (hi1 : -2147483648 ≤ i) (hi2 : i < 2147483648) : qM G mX12_whyNoPlace 2 0 0 [vR 86, vI s, vI i] m (fun r m' => r = some (vI (FX12_whyNoPlace m s i)) ∧ m' = m) := by
  refine qM.intro okX12_whyNoPlace (Nat.le_of_ble_eq_true rfl) ?_
  refine j_iload_n rfl rfl ?_
  refine j_callS (As := [_]) rfl okX12_isShelf c_X12_278 (ct_X12_isShelf (by omega) (by omega)) rfl rfl (Nat.le_of_ble_eq_true rfl) (by decide) (by decide) ?_
  rintro vq mq ⟨e1, e2⟩
  rw [e1, e2]
  clear e1 e2
  simp only [Option.toList_some, Option.toList_none, List.cons_append, List.nil_append]
  refine j_bif_ne (tgt := 9) rfl (by decide) (fun hb4_1 => ?_) (fun hb4_1 => ?_)
  · skip
    refine j_aload_n rfl rfl ?_
    refine j_getR (q := 139) rfl f_X12_169 rfl (hS.lt (by decide)) (hS.k (by decide) (by decide)) (hS.r (by decide)) ?_
    refine j_iload_n rfl rfl ?_
    refine j_iald (n := 6) rfl (hS.lt (by decide)) (hS.k (by decide) (by decide)) (hS.n (by decide) (by decide)) (by omega) (by omega) (by decide) ?_
    have u14_1 := hI.a 139 (-6) 5 (by decide) s.toNat
    refine j_iconst rfl ?_
    refine j_icmp_ne (tgt := 22) rfl (by decide) (by omega) (by omega) (by omega) (by omega) (fun hb16_1 => ?_) (fun hb16_1 => ?_)
    · skip
      refine j_aload_n rfl rfl ?_
      refine j_getR (q := 139) rfl f_X12_169 rfl (hS.lt (by decide)) (hS.k (by decide) (by decide)) (hS.r (by decide)) ?_
      refine j_iload_n rfl rfl ?_
      refine j_iald (n := 6) rfl (hS.lt (by decide)) (hS.k (by decide) (by decide)) (hS.n (by decide) (by decide)) (by omega) (by omega) (by decide) ?_
      have u27_1 := hI.a 139 (-6) 5 (by decide) s.toNat
      refine j_if_lt (tgt := 34) rfl (by decide) (by omega) (by omega) (fun hb28_1 => ?_) (fun hb28_1 => ?_)
      · skip
        refine j_iload_n rfl rfl ?_
        refine j_iconst rfl ?_
        refine j_aload_n rfl rfl ?_
        refine j_getR (q := 140) rfl f_X12_172 rfl (hS.lt (by decide)) (hS.k (by decide) (by decide)) (hS.r (by decide)) ?_
        refine j_iload_n rfl rfl ?_
        refine j_iald (n := 6) rfl (hS.lt (by decide)) (hS.k (by decide) (by decide)) (hS.n (by decide) (by decide)) (by omega) (by omega) (by decide) ?_
        have u41_1 := hI.a 140 (0) 60 (by decide) s.toNat
        refine j_iconst rfl ?_
        refine j_isub rfl ?_
        refine j_callS (As := [_, _, _]) rfl okX12_in c_X12_194 (ct_X12_in (by omega) (by omega) (by omega) (by omega) (by omega) (by omega)) rfl rfl (Nat.le_of_ble_eq_true rfl) (by decide) (by decide) ?_
        rintro vq mq ⟨e1, e2⟩
        rw [e1, e2]
        clear e1 e2
        simp only [Option.toList_some, Option.toList_none, List.cons_append, List.nil_append]
        have w1 := hI.a 140 (0) 60 (by decide) s.toNat
        refine j_bif_eq (tgt := 54) rfl (by decide) (fun hb47_1 => ?_) (fun hb47_1 => ?_)
        · skip
          refine j_bipush rfl (by decide) ?_
          refine j_iret rfl rfl ?_ rfl (Nat.le_refl _)
          unfold FX12_whyNoPlace
          rw [if_pos hb4_1, if_pos hb16_1, if_pos hb28_1, if_neg hb47_1]
          exact ⟨rfl, rfl⟩
        · skip
          refine j_iconst rfl ?_
          refine j_goto (tgt := 56) rfl (by decide) ?_
          refine j_iret rfl rfl ?_ rfl (Nat.le_refl _)
          unfold FX12_whyNoPlace
          rw [if_pos hb4_1, if_pos hb16_1, if_pos hb28_1, if_pos hb47_1]
          exact ⟨rfl, rfl⟩
      · skip
        refine j_bipush rfl (by decide) ?_
        refine j_iret rfl rfl ?_ rfl (Nat.le_refl _)
        unfold FX12_whyNoPlace
        rw [if_pos hb4_1, if_pos hb16_1, if_neg hb28_1]
        exact ⟨rfl, rfl⟩
    · skip
      refine j_bipush rfl (by decide) ?_
      refine j_iret rfl rfl ?_ rfl (Nat.le_refl _)
      unfold FX12_whyNoPlace
      rw [if_pos hb4_1, if_neg (not_not_intro hb16_1)]
      exact ⟨rfl, rfl⟩
  · skip
    refine j_iconst rfl ?_
    refine j_iret rfl rfl ?_ rfl (Nat.le_refl _)
    unfold FX12_whyNoPlace
    rw [if_neg hb4_1]
    exact ⟨rfl, rfl⟩

theorem FX12_whyNoPlace_rng (m : AM) (s i : Int) : -20 ≤ FX12_whyNoPlace m s i ∧ FX12_whyNoPlace m s i ≤ 0 := by
  unfold FX12_whyNoPlace
  repeat' split
  all_goals decide

theorem FX12_whyNoPlace_ok (m : AM) (s i : Int) : FX12_whyNoPlace m s i = 0 → 0 ≤ s ∧ s ≤ 5 ∧ mi m 139 s.toNat ≠ -1 ∧ mi m 139 s.toNat < 0 ∧ 0 ≤ i ∧ i < mi m 140 s.toNat := by
  unfold FX12_whyNoPlace
  intro h
  repeat' split at h
  all_goals first | omega | (exfalso; revert h; decide)

def FX12_noNumber (m : AM) (s : Int) (i : Int) : Int × AM :=
  if 0 ≤ s ∧ s ≤ 5 then
    if (mi m 139 s.toNat) ≠ (-1) then
      if mi m 139 s.toNat = -5 ∨ mi m 139 s.toNat = -6 then
        if 0 ≤ i ∧ i ≤ ((mi m 140 s.toNat) - 1) then
          (1, (si m 142 ((60 * s) + i).toNat 1))
        else
          ((-13), m)
      else
        ((-12), m)
    else
      ((-11), m)
  else
    ((-1), m)
set_option maxRecDepth 20000 in
set_option maxHeartbeats 4000000 in
theorem ct_X12_noNumber {G : QW} {m : AM} (hS : St m) (hI : IM m) {s : Int} {i : Int} (hs1 : -2147483648 ≤ s) (hs2 : s < 2147483648) (hi1 : -2147483648 ≤ i) (hi2 : i < 2147483648) : qM G mX12_noNumber 3 0 0 [vR 86, vI s, vI i] m (fun r m' => r = some (vI (FX12_noNumber m s i).1) ∧ m' = (FX12_noNumber m s i).2) := by
  refine qM.intro okX12_noNumber (Nat.le_of_ble_eq_true rfl) ?_
  refine j_iload_n rfl rfl ?_
  refine j_callS (As := [_]) rfl okX12_isShelf c_X12_278 (ct_X12_isShelf (by omega) (by omega)) rfl rfl (Nat.le_of_ble_eq_true rfl) (by decide) (by decide) ?_
  rintro vq mq ⟨e1, e2⟩
  rw [e1, e2]
  clear e1 e2
  simp only [Option.toList_some, Option.toList_none, List.cons_append, List.nil_append]
  refine j_bif_ne (tgt := 9) rfl (by decide) (fun hb4_1 => ?_) (fun hb4_1 => ?_)
  · skip
    refine j_aload_n rfl rfl ?_
    refine j_getR (q := 139) rfl f_X12_169 rfl (hS.lt (by decide)) (hS.k (by decide) (by decide)) (hS.r (by decide)) ?_
    refine j_iload_n rfl rfl ?_
    refine j_iald (n := 6) rfl (hS.lt (by decide)) (hS.k (by decide) (by decide)) (hS.n (by decide) (by decide)) (by omega) (by omega) (by decide) ?_
    have u14_1 := hI.a 139 (-6) 5 (by decide) s.toNat
    refine j_iconst rfl ?_
    refine j_icmp_ne (tgt := 22) rfl (by decide) (by omega) (by omega) (by omega) (by omega) (fun hb16_1 => ?_) (fun hb16_1 => ?_)
    · skip
      refine j_aload_n rfl rfl ?_
      refine j_iload_n rfl rfl ?_
      refine j_callV (ci := 12) rfl okX12_isReals c_X12_281 (ct_X12_isReals hS hI (by omega) (by omega) (by omega) (by omega)) rfl rfl (hS.lt (by decide)) (hS.k (by decide) (by decide)) (by decide) rfl (Nat.le_of_ble_eq_true rfl) (by decide) (by decide) ?_
      rintro vq mq ⟨e1, e2⟩
      rw [e1, e2]
      clear e1 e2
      simp only [Option.toList_some, Option.toList_none, List.cons_append, List.nil_append]
      have w1 := hI.a 139 (-6) 5 (by decide) s.toNat
      refine j_bif_ne (tgt := 33) rfl (by decide) (fun hb27_1 => ?_) (fun hb27_1 => ?_)
      · skip
        refine j_iload_n rfl rfl ?_
        refine j_iconst rfl ?_
        refine j_aload_n rfl rfl ?_
        refine j_getR (q := 140) rfl f_X12_172 rfl (hS.lt (by decide)) (hS.k (by decide) (by decide)) (hS.r (by decide)) ?_
        refine j_iload_n rfl rfl ?_
        refine j_iald (n := 6) rfl (hS.lt (by decide)) (hS.k (by decide) (by decide)) (hS.n (by decide) (by decide)) (by omega) (by omega) (by decide) ?_
        have u40_1 := hI.a 140 (0) 60 (by decide) s.toNat
        refine j_iconst rfl ?_
        refine j_isub rfl ?_
        refine j_callS (As := [_, _, _]) rfl okX12_in c_X12_194 (ct_X12_in (by omega) (by omega) (by omega) (by omega) (by omega) (by omega)) rfl rfl (Nat.le_of_ble_eq_true rfl) (by decide) (by decide) ?_
        rintro vq mq ⟨e1, e2⟩
        rw [e1, e2]
        clear e1 e2
        simp only [Option.toList_some, Option.toList_none, List.cons_append, List.nil_append]
        have w2 := hI.a 140 (0) 60 (by decide) s.toNat
        refine j_bif_ne (tgt := 52) rfl (by decide) (fun hb46_1 => ?_) (fun hb46_1 => ?_)
        · skip
          refine j_aload_n rfl rfl ?_
          refine j_getR (q := 142) rfl f_X12_178 rfl (hS.lt (by decide)) (hS.k (by decide) (by decide)) (hS.r (by decide)) ?_
          refine j_bipush rfl (by decide) ?_
          refine j_iload_n rfl rfl ?_
          refine j_imul rfl ?_
          refine j_iload_n rfl rfl ?_
          refine j_iadd rfl ?_
          refine j_iconst rfl ?_
          refine j_zast (n := 360) rfl (hS.lt (by decide)) (hS.k (by decide) (by decide)) (hS.n (by decide) (by decide)) (by omega) (by omega) (by first | decide | omega) (by omega) ?_
          refine j_iconst rfl ?_
          refine j_iret rfl rfl ?_ rfl (Nat.le_refl _)
          unfold FX12_noNumber
          rw [if_pos hb4_1, if_pos hb16_1, if_pos hb27_1, if_pos hb46_1]
          exact ⟨rfl, rfl⟩
        · skip
          refine j_bipush rfl (by decide) ?_
          refine j_iret rfl rfl ?_ rfl (Nat.le_refl _)
          unfold FX12_noNumber
          rw [if_pos hb4_1, if_pos hb16_1, if_pos hb27_1, if_neg hb46_1]
          exact ⟨rfl, rfl⟩
      · skip
        refine j_bipush rfl (by decide) ?_
        refine j_iret rfl rfl ?_ rfl (Nat.le_refl _)
        unfold FX12_noNumber
        rw [if_pos hb4_1, if_pos hb16_1, if_neg hb27_1]
        exact ⟨rfl, rfl⟩
    · skip
      refine j_bipush rfl (by decide) ?_
      refine j_iret rfl rfl ?_ rfl (Nat.le_refl _)
      unfold FX12_noNumber
      rw [if_pos hb4_1, if_neg (not_not_intro hb16_1)]
      exact ⟨rfl, rfl⟩
  · skip
    refine j_iconst rfl ?_
    refine j_iret rfl rfl ?_ rfl (Nat.le_refl _)
    unfold FX12_noNumber
    rw [if_neg hb4_1]
    exact ⟨rfl, rfl⟩

def FX12_taken (m : AM) (s : Int) (k : Int) : Int :=
  if 0 ≤ s ∧ s ≤ 5 then
    if 0 ≤ k ∧ k ≤ 6 then
      if (mi m 139 s.toNat) ≠ (-1) then
        if (mi m 139 s.toNat) < 0 then
          (-12)
        else
          if k = 0 ∨ (mi m 87 (mi m 139 s.toNat).toNat) = k ∨ (k = 3 ∧ (mi m 87 (mi m 139 s.toNat).toNat) = 6) ∨ (k = 4 ∧ (mi m 87 (mi m 139 s.toNat).toNat) = 5) then
            mi m 87 (mi m 139 s.toNat).toNat
          else
            (-12)
      else
        (-11)
    else
      (-1)
  else
    (-1)
set_option maxRecDepth 20000 in
set_option maxHeartbeats 4000000 in
theorem ct_X12_taken {G : QW} {m : AM} (hS : St m) (hI : IM m) {s : Int} {k : Int} (hs1 : -2147483648 ≤ s) (hs2 : s < 2147483648) (hk1 : -2147483648 ≤ k) (hk2 : k < 2147483648) : qM G mX12_taken 2 0 0 [vR 86, vI s, vI k] m (fun r m' => r = some (vI (FX12_taken m s k)) ∧ m' = m) := by
  refine qM.intro okX12_taken (Nat.le_of_ble_eq_true rfl) ?_
  refine j_iload_n rfl rfl ?_
  refine j_callS (As := [_]) rfl okX12_isShelf c_X12_278 (ct_X12_isShelf (by omega) (by omega)) rfl rfl (Nat.le_of_ble_eq_true rfl) (by decide) (by decide) ?_
  rintro vq mq ⟨e1, e2⟩
  rw [e1, e2]
  clear e1 e2
  simp only [Option.toList_some, Option.toList_none, List.cons_append, List.nil_append]
  refine j_bif_eq (tgt := 17) rfl (by decide) (fun hb4_1 => ?_) (fun hb4_1 => ?_)
  · skip
    refine j_iconst rfl ?_
    refine j_iret rfl rfl ?_ rfl (Nat.le_refl _)
    unfold FX12_taken
    rw [if_neg hb4_1]
    exact ⟨rfl, rfl⟩
  · skip
    refine j_iload_n rfl rfl ?_
    refine j_iconst rfl ?_
    refine j_bipush rfl (by decide) ?_
    refine j_callS (As := [_, _, _]) rfl okX12_in c_X12_194 (ct_X12_in (by omega) (by omega) (by omega) (by omega) (by omega) (by omega)) rfl rfl (Nat.le_of_ble_eq_true rfl) (by decide) (by decide) ?_
    rintro vq mq ⟨e1, e2⟩
    rw [e1, e2]
    clear e1 e2
    simp only [Option.toList_some, Option.toList_none, List.cons_append, List.nil_append]
    refine j_bif_ne (tgt := 19) rfl (by decide) (fun hb14_1 => ?_) (fun hb14_1 => ?_)
    · skip
      refine j_aload_n rfl rfl ?_
      refine j_getR (q := 139) rfl f_X12_169 rfl (hS.lt (by decide)) (hS.k (by decide) (by decide)) (hS.r (by decide)) ?_
      refine j_iload_n rfl rfl ?_
      refine j_iald (n := 6) rfl (hS.lt (by decide)) (hS.k (by decide) (by decide)) (hS.n (by decide) (by decide)) (by omega) (by omega) (by decide) ?_
      have u24_1 := hI.a 139 (-6) 5 (by decide) s.toNat
      refine j_iconst rfl ?_
      refine j_icmp_ne (tgt := 32) rfl (by decide) (by omega) (by omega) (by omega) (by omega) (fun hb26_1 => ?_) (fun hb26_1 => ?_)
      · skip
        refine j_aload_n rfl rfl ?_
        refine j_getR (q := 139) rfl f_X12_169 rfl (hS.lt (by decide)) (hS.k (by decide) (by decide)) (hS.r (by decide)) ?_
        refine j_iload_n rfl rfl ?_
        refine j_iald (n := 6) rfl (hS.lt (by decide)) (hS.k (by decide) (by decide)) (hS.n (by decide) (by decide)) (by omega) (by omega) (by decide) ?_
        have u37_1 := hI.a 139 (-6) 5 (by decide) s.toNat
        refine j_if_lt (tgt := 73) rfl (by decide) (by omega) (by omega) (fun hb38_1 => ?_) (fun hb38_1 => ?_)
        · skip
          refine j_bipush rfl (by decide) ?_
          refine j_iret rfl rfl ?_ rfl (Nat.le_refl _)
          unfold FX12_taken
          rw [if_pos hb4_1, if_pos hb14_1, if_pos hb26_1, if_pos hb38_1]
          exact ⟨rfl, rfl⟩
        · skip
          refine j_aload_n rfl rfl ?_
          refine j_getR (q := 87) rfl f_X12_7 rfl (hS.lt (by decide)) (hS.k (by decide) (by decide)) (hS.r (by decide)) ?_
          refine j_aload_n rfl rfl ?_
          refine j_getR (q := 139) rfl f_X12_169 rfl (hS.lt (by decide)) (hS.k (by decide) (by decide)) (hS.r (by decide)) ?_
          refine j_iload_n rfl rfl ?_
          refine j_iald (n := 6) rfl (hS.lt (by decide)) (hS.k (by decide) (by decide)) (hS.n (by decide) (by decide)) (by omega) (by omega) (by decide) ?_
          have u50_1 := hI.a 139 (-6) 5 (by decide) s.toNat
          refine j_iald (n := 6) rfl (hS.lt (by decide)) (hS.k (by decide) (by decide)) (hS.n (by decide) (by decide)) (by omega) (by omega) (by decide) ?_
          have u51_1 := hI.a 87 (0) 6 (by decide) (mi m 139 s.toNat).toNat
          refine j_iload_n rfl rfl ?_
          refine j_callS (As := [_, _]) rfl okX12_isUnder c_X12_523 (ct_X12_isUnder (by omega) (by omega) (by omega) (by omega)) rfl rfl (Nat.le_of_ble_eq_true rfl) (by decide) (by decide) ?_
          rintro vq mq ⟨e1, e2⟩
          rw [e1, e2]
          clear e1 e2
          simp only [Option.toList_some, Option.toList_none, List.cons_append, List.nil_append]
          have w1 := hI.a 87 (0) 6 (by decide) (mi m 139 s.toNat).toNat
          refine j_bif_eq (tgt := 73) rfl (by decide) (fun hb56_1 => ?_) (fun hb56_1 => ?_)
          · skip
            refine j_bipush rfl (by decide) ?_
            refine j_iret rfl rfl ?_ rfl (Nat.le_refl _)
            unfold FX12_taken
            rw [if_pos hb4_1, if_pos hb14_1, if_pos hb26_1, if_neg hb38_1, if_neg hb56_1]
            exact ⟨rfl, rfl⟩
          · skip
            refine j_aload_n rfl rfl ?_
            refine j_getR (q := 87) rfl f_X12_7 rfl (hS.lt (by decide)) (hS.k (by decide) (by decide)) (hS.r (by decide)) ?_
            refine j_aload_n rfl rfl ?_
            refine j_getR (q := 139) rfl f_X12_169 rfl (hS.lt (by decide)) (hS.k (by decide) (by decide)) (hS.r (by decide)) ?_
            refine j_iload_n rfl rfl ?_
            refine j_iald (n := 6) rfl (hS.lt (by decide)) (hS.k (by decide) (by decide)) (hS.n (by decide) (by decide)) (by omega) (by omega) (by decide) ?_
            have u68_1 := hI.a 139 (-6) 5 (by decide) s.toNat
            refine j_iald (n := 6) rfl (hS.lt (by decide)) (hS.k (by decide) (by decide)) (hS.n (by decide) (by decide)) (by omega) (by omega) (by decide) ?_
            have u69_1 := hI.a 87 (0) 6 (by decide) (mi m 139 s.toNat).toNat
            refine j_goto (tgt := 75) rfl (by decide) ?_
            refine j_iret rfl rfl ?_ rfl (Nat.le_refl _)
            unfold FX12_taken
            rw [if_pos hb4_1, if_pos hb14_1, if_pos hb26_1, if_neg hb38_1, if_pos hb56_1]
            exact ⟨rfl, rfl⟩
      · skip
        refine j_bipush rfl (by decide) ?_
        refine j_iret rfl rfl ?_ rfl (Nat.le_refl _)
        unfold FX12_taken
        rw [if_pos hb4_1, if_pos hb14_1, if_neg (not_not_intro hb26_1)]
        exact ⟨rfl, rfl⟩
    · skip
      refine j_iconst rfl ?_
      refine j_iret rfl rfl ?_ rfl (Nat.le_refl _)
      unfold FX12_taken
      rw [if_pos hb4_1, if_neg hb14_1]
      exact ⟨rfl, rfl⟩

def FX12_put (m : AM) (s : Int) (i : Int) (v : Int) : Int × AM :=
  if (FX12_whyNoPlace m s i) ≥ 0 then
    if ((-2) - (mi m 139 s.toNat)) ≠ 0 then
      if ((-2) - (mi m 139 s.toNat)) ≠ 1 then
        if ((-2) - (mi m 139 s.toNat)) ≠ 2 then
          if ((-2) - (mi m 139 s.toNat)) ≠ 3 then
            (1, (si (sl m 141 ((60 * s) + i).toNat (z_l2d v)) 142 ((60 * s) + i).toNat 0))
          else
            (1, (si (sl m 141 ((60 * s) + i).toNat (z_l2f v)) 142 ((60 * s) + i).toNat 0))
        else
          (1, (si (sl m 141 ((60 * s) + i).toNat v) 142 ((60 * s) + i).toNat 0))
      else
        (1, (si (sl m 141 ((60 * s) + i).toNat (z_l2i v)) 142 ((60 * s) + i).toNat 0))
    else
      (1, (si (sl m 141 ((60 * s) + i).toNat (z_i2b (z_l2i v))) 142 ((60 * s) + i).toNat 0))
  else
    (FX12_whyNoPlace m s i, m)
set_option maxRecDepth 20000 in
set_option maxHeartbeats 4000000 in
theorem ct_X12_put {G : QW} {m : AM} (hS : St m) (hI : IM m) {s : Int} {i : Int} {v : Int} (hs1 : -2147483648 ≤ s) (hs2 : s < 2147483648) (hi1 : -2147483648 ≤ i) (hi2 : i < 2147483648) (hv1 : -9223372036854775808 ≤ v) (hv2 : v < 9223372036854775808) : qM G mX12_put 3 0 0 [vR 86, vI s, vI i, vL v] m (fun r m' => r = some (vI (FX12_put m s i v).1) ∧ m' = (FX12_put m s i v).2) := by
  refine qM.intro okX12_put (Nat.le_of_ble_eq_true rfl) ?_
  refine j_aload_n rfl rfl ?_
  refine j_iload_n rfl rfl ?_
  refine j_iload_n rfl rfl ?_
  refine j_callV (ci := 12) rfl okX12_whyNoPlace c_X12_514 (ct_X12_whyNoPlace hS hI (by omega) (by omega) (by omega) (by omega)) rfl rfl (hS.lt (by decide)) (hS.k (by decide) (by decide)) (by decide) rfl (Nat.le_of_ble_eq_true rfl) (by decide) (by decide) ?_
  rintro vq mq ⟨e1, e2⟩
  rw [e1, e2]
  clear e1 e2
  simp only [Option.toList_some, Option.toList_none, List.cons_append, List.nil_append]
  have pf3_0 := FX12_whyNoPlace_rng m s i
  refine j_istore rfl (by decide) ?_
  refine j_iload rfl rfl ?_
  refine j_if_ge (tgt := 16) rfl (by decide) (by omega) (by omega) (fun hb10_1 => ?_) (fun hb10_1 => ?_)
  · skip
    have ok := FX12_whyNoPlace_ok m s i (by omega)
    have ok2 := hI.a 140 (0) 60 (by decide) s.toNat
    have ok3 := hI.a 139 (-6) 5 (by decide) s.toNat
    refine j_bipush rfl (by decide) ?_
    refine j_aload_n rfl rfl ?_
    refine j_getR (q := 139) rfl f_X12_169 rfl (hS.lt (by decide)) (hS.k (by decide) (by decide)) (hS.r (by decide)) ?_
    refine j_iload_n rfl rfl ?_
    refine j_iald (n := 6) rfl (hS.lt (by decide)) (hS.k (by decide) (by decide)) (hS.n (by decide) (by decide)) (by omega) (by omega) (by decide) ?_
    have u23_1 := hI.a 139 (-6) 5 (by decide) s.toNat
    refine j_isub rfl ?_
    refine j_istore rfl (by decide) ?_
    refine j_aload_n rfl rfl ?_
    refine j_getR (q := 141) rfl f_X12_175 rfl (hS.lt (by decide)) (hS.k (by decide) (by decide)) (hS.r (by decide)) ?_
    refine j_bipush rfl (by decide) ?_
    refine j_iload_n rfl rfl ?_
    refine j_imul rfl ?_
    refine j_iload_n rfl rfl ?_
    refine j_iadd rfl ?_
    refine j_iload rfl rfl ?_
    refine j_if_ne (tgt := 49) rfl (by decide) (by omega) (by omega) (fun hb39_1 => ?_) (fun hb39_1 => ?_)
    · skip
      refine j_iload rfl rfl ?_
      refine j_iconst rfl ?_
      refine j_icmp_ne (tgt := 61) rfl (by decide) (by omega) (by omega) (by omega) (by omega) (fun hb52_1 => ?_) (fun hb52_1 => ?_)
      · skip
        refine j_iload rfl rfl ?_
        refine j_iconst rfl ?_
        refine j_icmp_ne (tgt := 71) rfl (by decide) (by omega) (by omega) (by omega) (by omega) (fun hb64_1 => ?_) (fun hb64_1 => ?_)
        · skip
          refine j_iload rfl rfl ?_
          refine j_iconst rfl ?_
          refine j_icmp_ne (tgt := 83) rfl (by decide) (by omega) (by omega) (by omega) (by omega) (fun hb74_1 => ?_) (fun hb74_1 => ?_)
          · skip
            refine j_lload_n rfl rfl ?_
            refine j_l2d rfl rfl ?_
            have z84_1 := z_l2d_rng v
            refine j_last (n := 360) rfl (hS.lt (by decide)) (hS.k (by decide) (by decide)) (hS.n (by decide) (by decide)) (by omega) (by omega) (by first | decide | omega) ?_
            refine j_aload_n rfl rfl ?_
            refine j_getR (q := 142) rfl f_X12_178 rfl (hS.lt (by decide)) (hS.k (by decide) (by decide)) (hS.r (by decide)) ?_
            refine j_bipush rfl (by decide) ?_
            refine j_iload_n rfl rfl ?_
            refine j_imul rfl ?_
            refine j_iload_n rfl rfl ?_
            refine j_iadd rfl ?_
            refine j_iconst rfl ?_
            refine j_zast (n := 360) rfl (hS.lt (by decide)) (hS.k (by decide) (by decide)) (hS.n (by decide) (by decide)) (by omega) (by omega) (by first | decide | omega) (by omega) ?_
            refine j_iconst rfl ?_
            refine j_iret rfl rfl ?_ rfl (Nat.le_refl _)
            unfold FX12_put
            rw [if_pos hb10_1, if_pos hb39_1, if_pos hb52_1, if_pos hb64_1, if_pos hb74_1]
            exact ⟨rfl, rfl⟩
          · skip
            refine j_lload_n rfl rfl ?_
            refine j_l2f rfl rfl ?_
            have z78_1 := z_l2f_rng v
            refine j_goto (tgt := 86) rfl (by decide) ?_
            refine j_last (n := 360) rfl (hS.lt (by decide)) (hS.k (by decide) (by decide)) (hS.n (by decide) (by decide)) (by omega) (by omega) (by first | decide | omega) ?_
            refine j_aload_n rfl rfl ?_
            refine j_getR (q := 142) rfl f_X12_178 rfl (hS.lt (by decide)) (hS.k (by decide) (by decide)) (hS.r (by decide)) ?_
            refine j_bipush rfl (by decide) ?_
            refine j_iload_n rfl rfl ?_
            refine j_imul rfl ?_
            refine j_iload_n rfl rfl ?_
            refine j_iadd rfl ?_
            refine j_iconst rfl ?_
            refine j_zast (n := 360) rfl (hS.lt (by decide)) (hS.k (by decide) (by decide)) (hS.n (by decide) (by decide)) (by omega) (by omega) (by first | decide | omega) (by omega) ?_
            refine j_iconst rfl ?_
            refine j_iret rfl rfl ?_ rfl (Nat.le_refl _)
            unfold FX12_put
            rw [if_pos hb10_1, if_pos hb39_1, if_pos hb52_1, if_pos hb64_1, if_neg (not_not_intro hb74_1)]
            exact ⟨rfl, rfl⟩
        · skip
          refine j_lload_n rfl rfl ?_
          refine j_goto (tgt := 86) rfl (by decide) ?_
          refine j_last (n := 360) rfl (hS.lt (by decide)) (hS.k (by decide) (by decide)) (hS.n (by decide) (by decide)) (by omega) (by omega) (by first | decide | omega) ?_
          refine j_aload_n rfl rfl ?_
          refine j_getR (q := 142) rfl f_X12_178 rfl (hS.lt (by decide)) (hS.k (by decide) (by decide)) (hS.r (by decide)) ?_
          refine j_bipush rfl (by decide) ?_
          refine j_iload_n rfl rfl ?_
          refine j_imul rfl ?_
          refine j_iload_n rfl rfl ?_
          refine j_iadd rfl ?_
          refine j_iconst rfl ?_
          refine j_zast (n := 360) rfl (hS.lt (by decide)) (hS.k (by decide) (by decide)) (hS.n (by decide) (by decide)) (by omega) (by omega) (by first | decide | omega) (by omega) ?_
          refine j_iconst rfl ?_
          refine j_iret rfl rfl ?_ rfl (Nat.le_refl _)
          unfold FX12_put
          rw [if_pos hb10_1, if_pos hb39_1, if_pos hb52_1, if_neg (not_not_intro hb64_1)]
          exact ⟨rfl, rfl⟩
      · skip
        refine j_lload_n rfl rfl ?_
        refine j_l2iW rfl ?_
        have z56_1 := z_l2i_rng v
        refine j_i2l rfl (by omega) (by omega) ?_
        refine j_goto (tgt := 86) rfl (by decide) ?_
        refine j_last (n := 360) rfl (hS.lt (by decide)) (hS.k (by decide) (by decide)) (hS.n (by decide) (by decide)) (by omega) (by omega) (by first | decide | omega) ?_
        refine j_aload_n rfl rfl ?_
        refine j_getR (q := 142) rfl f_X12_178 rfl (hS.lt (by decide)) (hS.k (by decide) (by decide)) (hS.r (by decide)) ?_
        refine j_bipush rfl (by decide) ?_
        refine j_iload_n rfl rfl ?_
        refine j_imul rfl ?_
        refine j_iload_n rfl rfl ?_
        refine j_iadd rfl ?_
        refine j_iconst rfl ?_
        refine j_zast (n := 360) rfl (hS.lt (by decide)) (hS.k (by decide) (by decide)) (hS.n (by decide) (by decide)) (by omega) (by omega) (by first | decide | omega) (by omega) ?_
        refine j_iconst rfl ?_
        refine j_iret rfl rfl ?_ rfl (Nat.le_refl _)
        unfold FX12_put
        rw [if_pos hb10_1, if_pos hb39_1, if_neg (not_not_intro hb52_1)]
        exact ⟨rfl, rfl⟩
    · skip
      refine j_lload_n rfl rfl ?_
      refine j_l2iW rfl ?_
      have z43_1 := z_l2i_rng v
      refine j_i2b rfl ?_
      have z44_1 := z_i2b_rng (z_l2i v)
      refine j_i2l rfl (by omega) (by omega) ?_
      refine j_goto (tgt := 86) rfl (by decide) ?_
      refine j_last (n := 360) rfl (hS.lt (by decide)) (hS.k (by decide) (by decide)) (hS.n (by decide) (by decide)) (by omega) (by omega) (by first | decide | omega) ?_
      refine j_aload_n rfl rfl ?_
      refine j_getR (q := 142) rfl f_X12_178 rfl (hS.lt (by decide)) (hS.k (by decide) (by decide)) (hS.r (by decide)) ?_
      refine j_bipush rfl (by decide) ?_
      refine j_iload_n rfl rfl ?_
      refine j_imul rfl ?_
      refine j_iload_n rfl rfl ?_
      refine j_iadd rfl ?_
      refine j_iconst rfl ?_
      refine j_zast (n := 360) rfl (hS.lt (by decide)) (hS.k (by decide) (by decide)) (hS.n (by decide) (by decide)) (by omega) (by omega) (by first | decide | omega) (by omega) ?_
      refine j_iconst rfl ?_
      refine j_iret rfl rfl ?_ rfl (Nat.le_refl _)
      unfold FX12_put
      rw [if_pos hb10_1, if_neg (not_not_intro hb39_1)]
      exact ⟨rfl, rfl⟩
  · skip
    refine j_iload rfl rfl ?_
    refine j_iret rfl rfl ?_ rfl (Nat.le_refl _)
    unfold FX12_put
    rw [if_neg hb10_1]
    exact ⟨rfl, rfl⟩

def FX12_element (m : AM) (s : Int) (i : Int) : Int :=
  if (FX12_whyNoPlace m s i) ≥ 0 then
    if (mi m 142 ((60 * s) + i).toNat) = 0 then
      ml m 141 ((60 * s) + i).toNat
    else
      9223372036854775807
  else
    (-9223372036854775808)
set_option maxRecDepth 20000 in
set_option maxHeartbeats 4000000 in
theorem ct_X12_element {G : QW} {m : AM} (hS : St m) (hI : IM m) {s : Int} {i : Int} (hs1 : -2147483648 ≤ s) (hs2 : s < 2147483648) (hi1 : -2147483648 ≤ i) (hi2 : i < 2147483648) : qM G mX12_element 3 0 0 [vR 86, vI s, vI i] m (fun r m' => r = some (vL (FX12_element m s i)) ∧ m' = m) := by
  refine qM.intro okX12_element (Nat.le_of_ble_eq_true rfl) ?_
  refine j_aload_n rfl rfl ?_
  refine j_iload_n rfl rfl ?_
  refine j_iload_n rfl rfl ?_
  refine j_callV (ci := 12) rfl okX12_whyNoPlace c_X12_514 (ct_X12_whyNoPlace hS hI (by omega) (by omega) (by omega) (by omega)) rfl rfl (hS.lt (by decide)) (hS.k (by decide) (by decide)) (by decide) rfl (Nat.le_of_ble_eq_true rfl) (by decide) (by decide) ?_
  rintro vq mq ⟨e1, e2⟩
  rw [e1, e2]
  clear e1 e2
  simp only [Option.toList_some, Option.toList_none, List.cons_append, List.nil_append]
  have pf3_0 := FX12_whyNoPlace_rng m s i
  refine j_if_ge (tgt := 13) rfl (by decide) (by omega) (by omega) (fun hb6_1 => ?_) (fun hb6_1 => ?_)
  · skip
    have ok := FX12_whyNoPlace_ok m s i (by omega)
    have ok2 := hI.a 140 (0) 60 (by decide) s.toNat
    have ok3 := hI.a 139 (-6) 5 (by decide) s.toNat
    refine j_aload_n rfl rfl ?_
    refine j_getR (q := 142) rfl f_X12_178 rfl (hS.lt (by decide)) (hS.k (by decide) (by decide)) (hS.r (by decide)) ?_
    refine j_bipush rfl (by decide) ?_
    refine j_iload_n rfl rfl ?_
    refine j_imul rfl ?_
    refine j_iload_n rfl rfl ?_
    refine j_iadd rfl ?_
    refine j_zald (n := 360) rfl (hS.lt (by decide)) (hS.k (by decide) (by decide)) (hS.n (by decide) (by decide)) (by omega) (by omega) (by decide) ?_
    have u23_1 := hI.a 142 (0) 1 (by decide) ((60 * s) + i).toNat
    refine j_if_eq (tgt := 33) rfl (by decide) (by omega) (by omega) (fun hb24_1 => ?_) (fun hb24_1 => ?_)
    · skip
      refine j_aload_n rfl rfl ?_
      refine j_getR (q := 141) rfl f_X12_175 rfl (hS.lt (by decide)) (hS.k (by decide) (by decide)) (hS.r (by decide)) ?_
      refine j_bipush rfl (by decide) ?_
      refine j_iload_n rfl rfl ?_
      refine j_imul rfl ?_
      refine j_iload_n rfl rfl ?_
      refine j_iadd rfl ?_
      refine j_lald (n := 360) rfl (hS.lt (by decide)) (hS.k (by decide) (by decide)) (hS.n (by decide) (by decide)) (by omega) (by omega) (by decide) ?_
      have u43_1 := ml_rng m 141 ((60 * s) + i).toNat
      refine j_lret rfl rfl ?_ rfl (Nat.le_refl _)
      unfold FX12_element
      rw [if_pos hb6_1, if_pos hb24_1]
      exact ⟨rfl, rfl⟩
    · skip
      refine j_ldc2 (v := 9223372036854775807) rfl k_X12_521 ?_
      refine j_goto (tgt := 44) rfl (by decide) ?_
      refine j_lret rfl rfl ?_ rfl (Nat.le_refl _)
      unfold FX12_element
      rw [if_pos hb6_1, if_neg hb24_1]
      exact ⟨rfl, rfl⟩
  · skip
    refine j_ldc2 (v := -9223372036854775808) rfl k_X12_519 ?_
    refine j_lret rfl rfl ?_ rfl (Nat.le_refl _)
    unfold FX12_element
    rw [if_neg hb6_1]
    exact ⟨rfl, rfl⟩

theorem mulb {t s : Int} (h0 : 0 ≤ t) (h1 : t ≤ 200) (h2 : -999 ≤ s) (h3 : s ≤ 999) : -199800 ≤ t * s ∧ t * s ≤ 199800 := by
  have a1 := Int.mul_le_mul_of_nonneg_left h3 h0
  have a2 := Int.mul_le_mul_of_nonneg_left h2 h0
  omega

def FX12_feltAt (m : AM) (k : Int) (t : Int) : Int :=
  if (mi m 104 k.toNat) ≥ 0 then
    if (mi m 104 k.toNat) ≠ 0 then
      if t ≥ (mi m 104 k.toNat) then
        mi m 105 ((200 * k) + ((mi m 104 k.toNat) - 1)).toNat
      else
        mi m 105 ((200 * k) + t).toNat
    else
      0
  else
    FX12_heldBy m ((mi m 101 k.toNat) + (t * (mi m 102 k.toNat))) (mi m 103 k.toNat)
set_option maxRecDepth 20000 in
set_option maxHeartbeats 4000000 in
theorem ct_X12_feltAt {G : QW} {m : AM} (hS : St m) (hI : IM m) {k : Int} {t : Int} (hk1 : -2147483648 ≤ k) (hk2 : k < 2147483648) (ht1 : -2147483648 ≤ t) (ht2 : t < 2147483648) (h3 : 0 ≤ k) (h4 : k ≤ 23) (h5 : 0 ≤ t) (h6 : t ≤ 199) : qM G mX12_feltAt 1 0 0 [vR 86, vI k, vI t] m (fun r m' => r = some (vI (FX12_feltAt m k t)) ∧ m' = m) := by
  refine qM.intro okX12_feltAt (Nat.le_of_ble_eq_true rfl) ?_
  have g1 := hI.a 101 (-99999) 99999 (by decide) k.toNat
  have g2 := hI.a 102 (-999) 999 (by decide) k.toNat
  have g3 := mulb h5 (by omega) g2.1 g2.2
  refine j_aload_n rfl rfl ?_
  refine j_getR (q := 104) rfl f_X12_63 rfl (hS.lt (by decide)) (hS.k (by decide) (by decide)) (hS.r (by decide)) ?_
  refine j_iload_n rfl rfl ?_
  refine j_iald (n := 24) rfl (hS.lt (by decide)) (hS.k (by decide) (by decide)) (hS.n (by decide) (by decide)) (by omega) (by omega) (by decide) ?_
  have u5_1 := hI.a 104 (-1) 60 (by decide) k.toNat
  refine j_if_ge (tgt := 34) rfl (by decide) (by omega) (by omega) (fun hb6_1 => ?_) (fun hb6_1 => ?_)
  · skip
    refine j_aload_n rfl rfl ?_
    refine j_getR (q := 104) rfl f_X12_63 rfl (hS.lt (by decide)) (hS.k (by decide) (by decide)) (hS.r (by decide)) ?_
    refine j_iload_n rfl rfl ?_
    refine j_iald (n := 24) rfl (hS.lt (by decide)) (hS.k (by decide) (by decide)) (hS.n (by decide) (by decide)) (by omega) (by omega) (by decide) ?_
    have u39_1 := hI.a 104 (-1) 60 (by decide) k.toNat
    refine j_if_ne (tgt := 47) rfl (by decide) (by omega) (by omega) (fun hb40_1 => ?_) (fun hb40_1 => ?_)
    · skip
      refine j_aload_n rfl rfl ?_
      refine j_getR (q := 105) rfl f_X12_66 rfl (hS.lt (by decide)) (hS.k (by decide) (by decide)) (hS.r (by decide)) ?_
      refine j_sipush rfl (by decide) ?_
      refine j_iload_n rfl rfl ?_
      refine j_imul rfl ?_
      refine j_iload_n rfl rfl ?_
      refine j_aload_n rfl rfl ?_
      refine j_getR (q := 104) rfl f_X12_63 rfl (hS.lt (by decide)) (hS.k (by decide) (by decide)) (hS.r (by decide)) ?_
      refine j_iload_n rfl rfl ?_
      refine j_iald (n := 24) rfl (hS.lt (by decide)) (hS.k (by decide) (by decide)) (hS.n (by decide) (by decide)) (by omega) (by omega) (by decide) ?_
      have u62_1 := hI.a 104 (-1) 60 (by decide) k.toNat
      refine j_icmp_ge (tgt := 70) rfl (by decide) (by omega) (by omega) (by omega) (by omega) (fun hb63_1 => ?_) (fun hb63_1 => ?_)
      · skip
        refine j_aload_n rfl rfl ?_
        refine j_getR (q := 104) rfl f_X12_63 rfl (hS.lt (by decide)) (hS.k (by decide) (by decide)) (hS.r (by decide)) ?_
        refine j_iload_n rfl rfl ?_
        refine j_iald (n := 24) rfl (hS.lt (by decide)) (hS.k (by decide) (by decide)) (hS.n (by decide) (by decide)) (by omega) (by omega) (by decide) ?_
        have u75_1 := hI.a 104 (-1) 60 (by decide) k.toNat
        refine j_iconst rfl ?_
        refine j_isub rfl ?_
        refine j_iadd rfl ?_
        refine j_iald (n := 4800) rfl (hS.lt (by decide)) (hS.k (by decide) (by decide)) (hS.n (by decide) (by decide)) (by omega) (by omega) (by decide) ?_
        have u79_1 := hI.a 105 (-99999) 99999 (by decide) ((200 * k) + ((mi m 104 k.toNat) - 1)).toNat
        refine j_iret rfl rfl ?_ rfl (Nat.le_refl _)
        unfold FX12_feltAt
        rw [if_pos hb6_1, if_pos hb40_1, if_pos hb63_1]
        exact ⟨rfl, rfl⟩
      · skip
        refine j_iload_n rfl rfl ?_
        refine j_goto (tgt := 78) rfl (by decide) ?_
        refine j_iadd rfl ?_
        refine j_iald (n := 4800) rfl (hS.lt (by decide)) (hS.k (by decide) (by decide)) (hS.n (by decide) (by decide)) (by omega) (by omega) (by decide) ?_
        have u79_2 := hI.a 105 (-99999) 99999 (by decide) ((200 * k) + t).toNat
        refine j_iret rfl rfl ?_ rfl (Nat.le_refl _)
        unfold FX12_feltAt
        rw [if_pos hb6_1, if_pos hb40_1, if_neg hb63_1]
        exact ⟨rfl, rfl⟩
    · skip
      refine j_iconst rfl ?_
      refine j_goto (tgt := 80) rfl (by decide) ?_
      refine j_iret rfl rfl ?_ rfl (Nat.le_refl _)
      unfold FX12_feltAt
      rw [if_pos hb6_1, if_neg (not_not_intro hb40_1)]
      exact ⟨rfl, rfl⟩
  · skip
    refine j_aload_n rfl rfl ?_
    refine j_getR (q := 101) rfl f_X12_54 rfl (hS.lt (by decide)) (hS.k (by decide) (by decide)) (hS.r (by decide)) ?_
    refine j_iload_n rfl rfl ?_
    refine j_iald (n := 24) rfl (hS.lt (by decide)) (hS.k (by decide) (by decide)) (hS.n (by decide) (by decide)) (by omega) (by omega) (by decide) ?_
    have u14_1 := hI.a 101 (-99999) 99999 (by decide) k.toNat
    refine j_iload_n rfl rfl ?_
    refine j_aload_n rfl rfl ?_
    refine j_getR (q := 102) rfl f_X12_57 rfl (hS.lt (by decide)) (hS.k (by decide) (by decide)) (hS.r (by decide)) ?_
    refine j_iload_n rfl rfl ?_
    refine j_iald (n := 24) rfl (hS.lt (by decide)) (hS.k (by decide) (by decide)) (hS.n (by decide) (by decide)) (by omega) (by omega) (by decide) ?_
    have u21_1 := hI.a 102 (-999) 999 (by decide) k.toNat
    refine j_imul rfl ?_
    refine j_iadd rfl ?_
    refine j_aload_n rfl rfl ?_
    refine j_getR (q := 103) rfl f_X12_60 rfl (hS.lt (by decide)) (hS.k (by decide) (by decide)) (hS.r (by decide)) ?_
    refine j_iload_n rfl rfl ?_
    refine j_iald (n := 24) rfl (hS.lt (by decide)) (hS.k (by decide) (by decide)) (hS.n (by decide) (by decide)) (by omega) (by omega) (by decide) ?_
    have u29_1 := hI.a 103 (0) 99999 (by decide) k.toNat
    refine j_callS (As := [_, _]) rfl okX12_heldBy c_X12_296 (ct_X12_heldBy (by omega) (by omega) (by omega) (by omega) (by omega)) rfl rfl (Nat.le_of_ble_eq_true rfl) (by decide) (by decide) ?_
    rintro vq mq ⟨e1, e2⟩
    rw [e1, e2]
    clear e1 e2
    simp only [Option.toList_some, Option.toList_none, List.cons_append, List.nil_append]
    refine j_iret rfl rfl ?_ rfl (Nat.le_refl _)
    unfold FX12_feltAt
    rw [if_neg hb6_1]
    exact ⟨rfl, rfl⟩

def FX12_feels (m : AM) (fk : Int) (t : Int) : Int :=
  if 0 ≤ fk ∧ (0 ≤ fk / 10 ∧ fk / 10 < mi m 86 21) ∧ 0 ≤ fk % 10 ∧ fk % 10 ≤ 2 then
    if 0 ≤ t ∧ t ≤ 199 then
      FX12_feltAt m ((3 * (fk / 10)) + (fk % 10)) t
    else
      (-2000000000)
  else
    (-2000000000)
set_option maxRecDepth 20000 in
set_option maxHeartbeats 4000000 in
theorem ct_X12_feels {G : QW} {m : AM} (hS : St m) (hI : IM m) {fk : Int} {t : Int} (hfk1 : -2147483648 ≤ fk) (hfk2 : fk < 2147483648) (ht1 : -2147483648 ≤ t) (ht2 : t < 2147483648) : qM G mX12_feels 3 0 0 [vR 86, vI fk, vI t] m (fun r m' => r = some (vI (FX12_feels m fk t)) ∧ m' = m) := by
  refine qM.intro okX12_feels (Nat.le_of_ble_eq_true rfl) ?_
  refine j_aload_n rfl rfl ?_
  refine j_iload_n rfl rfl ?_
  refine j_callV (ci := 12) rfl okX12_isFelt c_X12_274 (ct_X12_isFelt hS hI (by omega) (by omega)) rfl rfl (hS.lt (by decide)) (hS.k (by decide) (by decide)) (by decide) rfl (Nat.le_of_ble_eq_true rfl) (by decide) (by decide) ?_
  rintro vq mq ⟨e1, e2⟩
  rw [e1, e2]
  clear e1 e2
  simp only [Option.toList_some, Option.toList_none, List.cons_append, List.nil_append]
  have w1 := hI.s 86 21 (0) 8 (by decide)
  refine j_bif_eq (tgt := 38) rfl (by decide) (fun hb5_1 => ?_) (fun hb5_1 => ?_)
  · skip
    refine j_ldc (v := -2000000000) rfl k_X12_202 ?_
    refine j_iret rfl rfl ?_ rfl (Nat.le_refl _)
    unfold FX12_feels
    rw [if_neg hb5_1]
    exact ⟨rfl, rfl⟩
  · skip
    refine j_iload_n rfl rfl ?_
    refine j_iconst rfl ?_
    refine j_sipush rfl (by decide) ?_
    refine j_callS (As := [_, _, _]) rfl okX12_in c_X12_194 (ct_X12_in (by omega) (by omega) (by omega) (by omega) (by omega) (by omega)) rfl rfl (Nat.le_of_ble_eq_true rfl) (by decide) (by decide) ?_
    rintro vq mq ⟨e1, e2⟩
    rw [e1, e2]
    clear e1 e2
    simp only [Option.toList_some, Option.toList_none, List.cons_append, List.nil_append]
    refine j_bif_eq (tgt := 38) rfl (by decide) (fun hb16_1 => ?_) (fun hb16_1 => ?_)
    · skip
      refine j_ldc (v := -2000000000) rfl k_X12_202 ?_
      refine j_iret rfl rfl ?_ rfl (Nat.le_refl _)
      unfold FX12_feels
      rw [if_pos hb5_1, if_neg hb16_1]
      exact ⟨rfl, rfl⟩
    · skip
      refine j_aload_n rfl rfl ?_
      refine j_iconst rfl ?_
      refine j_iload_n rfl rfl ?_
      refine j_bipush rfl (by decide) ?_
      refine j_idivN rfl (by omega) (by omega) (by omega) (by omega) ?_
      refine j_imul rfl ?_
      refine j_iload_n rfl rfl ?_
      refine j_bipush rfl (by decide) ?_
      refine j_iremN rfl (by omega) (by omega) (by omega) (by omega) ?_
      refine j_iadd rfl ?_
      refine j_iload_n rfl rfl ?_
      refine j_callV (ci := 12) rfl okX12_feltAt c_X12_300 (ct_X12_feltAt hS hI (by omega) (by omega) (by omega) (by omega) (by omega) (by omega) (by omega) (by omega)) rfl rfl (hS.lt (by decide)) (hS.k (by decide) (by decide)) (by decide) rfl (Nat.le_of_ble_eq_true rfl) (by decide) (by decide) ?_
      rintro vq mq ⟨e1, e2⟩
      rw [e1, e2]
      clear e1 e2
      simp only [Option.toList_some, Option.toList_none, List.cons_append, List.nil_append]
      refine j_goto (tgt := 40) rfl (by decide) ?_
      refine j_iret rfl rfl ?_ rfl (Nat.le_refl _)
      unfold FX12_feels
      rw [if_pos hb5_1, if_pos hb16_1]
      exact ⟨rfl, rfl⟩


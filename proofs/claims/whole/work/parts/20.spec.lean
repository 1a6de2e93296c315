/-! what a program's part gives: a stack of numbers, worked by the class's numbering of operations (0 number, 1 SLOT, 2 INPUT, 3 FELT, 4 TICK, 5 CAUGHT, 6 negate, 7 | 8 & 9 < 10 = 11 > 12 + 13 - 14 * 15 / 16 %) -/
def sJN (w : Nat) (a b : Int) : Int × Int :=
  if w = 7 then (0, if a ≠ 0 ∨ b ≠ 0 then 1 else 0)
  else if w = 8 then (0, if a ≠ 0 ∧ b ≠ 0 then 1 else 0)
  else if w = 9 then (0, if a < b then 1 else 0)
  else if w = 10 then (0, if a = b then 1 else 0)
  else if w = 11 then (0, if a > b then 1 else 0)
  else if w = 15 ∨ w = 16 then (if b = 0 then 3 else 0, if w = 15 then a.tdiv b else a.tmod b)
  else
    let v := if w = 12 then a + b else if w = 13 then a - b else a * b
    (if v > 1000000000 ∨ v < -1000000000 then 2 else 0, v)
def sUp (f : Nat → Int) (n : Int) (v : Int) : Nat → Int := fun j => if j = n.toNat then v else f j
/-- the rest of a part: c words from k on, n numbers lie on the stack; the fault (0: none) and the stack -/
def sEV (code : Int → Nat × Int) (rd : Nat → Int → Int × Int) : Nat → Int → Int → (Nat → Int) → Int × (Nat → Int)
  | 0, _, _, f => (0, f)
  | c + 1, k, n, f =>
    if (code k).1 < 6 then
      if (rd (code k).1 (code k).2).1 ≠ 0 then ((rd (code k).1 (code k).2).1, f)
      else sEV code rd c (k + 1) (n + 1) (sUp f n (rd (code k).1 (code k).2).2)
    else if (code k).1 = 6 then sEV code rd c (k + 1) n (sUp f (n - 1) (-f (n - 1).toNat))
    else if (sJN (code k).1 (f (n - 2).toNat) (f (n - 1).toNat)).1 ≠ 0 then ((sJN (code k).1 (f (n - 2).toNat) (f (n - 1).toNat)).1, f)
    else sEV code rd c (k + 1) (n - 1) (sUp f (n - 2) (sJN (code k).1 (f (n - 2).toNat) (f (n - 1).toNat)).2)
/-- c words from k on leave one number where n lie, and never reach below -/
def sWF (code : Int → Nat × Int) : Nat → Int → Int → Prop
  | 0, _, n => n = 1
  | c + 1, k, n => 0 ≤ n ∧
    (((code k).1 < 6 ∧ ((code k).1 = 0 → 0 ≤ (code k).2 ∧ (code k).2 ≤ 99999) ∧ ((code k).1 = 1 → 0 ≤ (code k).2 ∧ (code k).2 ≤ 7) ∧ ((code k).1 = 2 → 0 ≤ (code k).2 ∧ (code k).2 ≤ 3) ∧ ((code k).1 = 3 → 0 ≤ (code k).2 ∧ (code k).2 ≤ 2) ∧ sWF code c (k + 1) (n + 1)) ∨
     ((code k).1 = 6 ∧ 1 ≤ n ∧ sWF code c (k + 1) n) ∨ (7 ≤ (code k).1 ∧ (code k).1 ≤ 16 ∧ 2 ≤ n ∧ sWF code c (k + 1) (n - 1)))
/-- the model's numbering of operations -/
def opL : List (Int × Nat) := [(1, 0), (2, 1), (3, 2), (4, 3), (5, 4), (6, 5), (7, 6), (124, 7), (38, 8), (60, 9), (61, 10), (62, 11), (43, 12), (45, 13), (42, 14), (47, 15), (37, 16)]
def opM (a : Int) : Nat := match opL.find? (fun q => q.1 == a) with
  | some q => q.2
  | none => 17
def cdM (m : AM) (b k : Int) : Nat × Int := (opM (mi m 98 (170 * b + k).toNat), mi m 99 (170 * b + k).toNat)

def FX12_readInput (m : AM) (b : Int) (i : Int) (n : Int) : Int × AM :=
  if (mi m 89 ((4 * b) + i).toNat) ≥ 0 then
    if (mi m 89 ((4 * b) + i).toNat) ≥ 0 then
      if (mi m 110 ((4 * ((mi m 89 ((4 * b) + i).toNat) / 10)) + ((mi m 89 ((4 * b) + i).toNat) % 10)).toNat) ≤ 0 then
        if (mi m 89 ((4 * b) + i).toNat) ≥ 0 then
          if (mi m 110 ((4 * ((mi m 89 ((4 * b) + i).toNat) / 10)) + ((mi m 89 ((4 * b) + i).toNat) % 10)).toNat) ≤ 0 then
            (0, (sl m 115 n.toNat (mi m 109 ((4 * ((mi m 89 ((4 * b) + i).toNat) / 10)) + ((mi m 89 ((4 * b) + i).toNat) % 10)).toNat)))
          else
            (0, (sl m 115 n.toNat (9000 + (mi m 110 ((4 * ((mi m 89 ((4 * b) + i).toNat) / 10)) + ((mi m 89 ((4 * b) + i).toNat) % 10)).toNat))))
        else
          (0, (sl m 115 n.toNat 0))
      else
        if (mi m 87 b.toNat) = 2 then
          if (mi m 89 ((4 * b) + i).toNat) ≥ 0 then
            if (mi m 110 ((4 * ((mi m 89 ((4 * b) + i).toNat) / 10)) + ((mi m 89 ((4 * b) + i).toNat) % 10)).toNat) ≤ 0 then
              (0, (sl m 115 n.toNat (mi m 109 ((4 * ((mi m 89 ((4 * b) + i).toNat) / 10)) + ((mi m 89 ((4 * b) + i).toNat) % 10)).toNat)))
            else
              (0, (sl m 115 n.toNat (9000 + (mi m 110 ((4 * ((mi m 89 ((4 * b) + i).toNat) / 10)) + ((mi m 89 ((4 * b) + i).toNat) % 10)).toNat))))
          else
            (0, (sl m 115 n.toNat 0))
        else
          (4, m)
    else
      if (0 : Int) ≤ 0 then
        if (mi m 89 ((4 * b) + i).toNat) ≥ 0 then
          if (0 : Int) ≤ 0 then
            (0, (sl m 115 n.toNat (mi m 109 ((4 * ((mi m 89 ((4 * b) + i).toNat) / 10)) + ((mi m 89 ((4 * b) + i).toNat) % 10)).toNat)))
          else
            (0, (sl m 115 n.toNat (9000 + 0)))
        else
          (0, (sl m 115 n.toNat 0))
      else
        if (mi m 87 b.toNat) = 2 then
          if (mi m 89 ((4 * b) + i).toNat) ≥ 0 then
            if (0 : Int) ≤ 0 then
              (0, (sl m 115 n.toNat (mi m 109 ((4 * ((mi m 89 ((4 * b) + i).toNat) / 10)) + ((mi m 89 ((4 * b) + i).toNat) % 10)).toNat)))
            else
              (0, (sl m 115 n.toNat (9000 + 0)))
          else
            (0, (sl m 115 n.toNat 0))
        else
          (4, m)
  else
    if (mi m 89 ((4 * b) + i).toNat) ≥ 0 then
      if (mi m 110 (0 : Int).toNat) ≤ 0 then
        if (mi m 89 ((4 * b) + i).toNat) ≥ 0 then
          if (mi m 110 (0 : Int).toNat) ≤ 0 then
            (0, (sl m 115 n.toNat (mi m 109 (0 : Int).toNat)))
          else
            (0, (sl m 115 n.toNat (9000 + (mi m 110 (0 : Int).toNat))))
        else
          (0, (sl m 115 n.toNat 0))
      else
        if (mi m 87 b.toNat) = 2 then
          if (mi m 89 ((4 * b) + i).toNat) ≥ 0 then
            if (mi m 110 (0 : Int).toNat) ≤ 0 then
              (0, (sl m 115 n.toNat (mi m 109 (0 : Int).toNat)))
            else
              (0, (sl m 115 n.toNat (9000 + (mi m 110 (0 : Int).toNat))))
          else
            (0, (sl m 115 n.toNat 0))
        else
          (4, m)
    else
      if (0 : Int) ≤ 0 then
        if (mi m 89 ((4 * b) + i).toNat) ≥ 0 then
          if (0 : Int) ≤ 0 then
            (0, (sl m 115 n.toNat (mi m 109 (0 : Int).toNat)))
          else
            (0, (sl m 115 n.toNat (9000 + 0)))
        else
          (0, (sl m 115 n.toNat 0))
      else
        if (mi m 87 b.toNat) = 2 then
          if (mi m 89 ((4 * b) + i).toNat) ≥ 0 then
            if (0 : Int) ≤ 0 then
              (0, (sl m 115 n.toNat (mi m 109 (0 : Int).toNat)))
            else
              (0, (sl m 115 n.toNat (9000 + 0)))
          else
            (0, (sl m 115 n.toNat 0))
        else
          (4, m)
set_option maxRecDepth 20000 in
set_option maxHeartbeats 4000000 in
theorem ct_X12_readInput {G : QW} {m : AM} (hS : St m) (hI : IM m) {b : Int} {i : Int} {n : Int} (hb1 : -2147483648 ≤ b) (hb2 : b < 2147483648) (hi1 : -2147483648 ≤ i) (hi2 : i < 2147483648) (hn1 : -2147483648 ≤ n) (hn2 : n < 2147483648) (h3 : 0 ≤ b) (h4 : b ≤ 5) (h5 : 0 ≤ i) (h6 : i ≤ 3) (h7 : 0 ≤ n) (h8 : n ≤ 169) (hw1 : mi m 89 (4 * b + i).toNat ≥ 0 → mi m 89 (4 * b + i).toNat % 10 ≤ 3) (hf1 : ∀ j : Nat, 0 ≤ mi m 110 j ∧ mi m 110 j ≤ 10) : qM G mX12_readInput 0 0 0 [vR 86, vI b, vI i, vI n] m (fun r m' => r = some (vI (FX12_readInput m b i n).1) ∧ m' = (FX12_readInput m b i n).2) := by
  refine qM.intro okX12_readInput (Nat.le_of_ble_eq_true rfl) ?_
  refine j_aload_n rfl rfl ?_
  refine j_getR (q := 89) rfl f_X12_16 rfl (hS.lt (by decide)) (hS.k (by decide) (by decide)) (hS.r (by decide)) ?_
  refine j_iconst rfl ?_
  refine j_iload_n rfl rfl ?_
  refine j_imul rfl ?_
  refine j_iload_n rfl rfl ?_
  refine j_iadd rfl ?_
  refine j_iald (n := 24) rfl (hS.lt (by decide)) (hS.k (by decide) (by decide)) (hS.n (by decide) (by decide)) (by omega) (by omega) (by decide) ?_
  have u9_1 := hI.a 89 (-1) 53 (by decide) ((4 * b) + i).toNat
  refine j_istore rfl (by decide) ?_
  refine j_iload rfl rfl ?_
  refine j_if_ge (tgt := 21) rfl (by decide) (by omega) (by omega) (fun hb14_1 => ?_) (fun hb14_1 => ?_)
  · skip
    refine j_iconst rfl ?_
    refine j_iload rfl rfl ?_
    refine j_bipush rfl (by decide) ?_
    refine j_idivN rfl (by omega) (by omega) (by omega) (by omega) ?_
    refine j_imul rfl ?_
    refine j_iload rfl rfl ?_
    refine j_bipush rfl (by decide) ?_
    refine j_iremN rfl (by omega) (by omega) (by omega) (by omega) ?_
    refine j_iadd rfl ?_
    refine j_istore rfl (by decide) ?_
    refine j_iload rfl rfl ?_
    refine j_if_ge (tgt := 45) rfl (by decide) (by omega) (by omega) (fun hb38_1 => ?_) (fun hb38_1 => ?_)
    · skip
      have hff := hf1 (4 * (mi m 89 (4 * b + i).toNat / 10) + mi m 89 (4 * b + i).toNat % 10).toNat
      refine j_aload_n rfl rfl ?_
      refine j_getR (q := 110) rfl f_X12_81 rfl (hS.lt (by decide)) (hS.k (by decide) (by decide)) (hS.r (by decide)) ?_
      refine j_iload rfl rfl ?_
      refine j_iald (n := 24) rfl (hS.lt (by decide)) (hS.k (by decide) (by decide)) (hS.n (by decide) (by decide)) (by omega) (by omega) (by decide) ?_
      have u51_1 := mi_rng m 110 ((4 * ((mi m 89 ((4 * b) + i).toNat) / 10)) + ((mi m 89 ((4 * b) + i).toNat) % 10)).toNat
      refine j_istore rfl (by decide) ?_
      refine j_iload rfl rfl ?_
      refine j_if_le (tgt := 71) rfl (by decide) (by omega) (by omega) (fun hb56_1 => ?_) (fun hb56_1 => ?_)
      · skip
        refine j_aload_n rfl rfl ?_
        refine j_getR (q := 115) rfl f_X12_96 rfl (hS.lt (by decide)) (hS.k (by decide) (by decide)) (hS.r (by decide)) ?_
        refine j_iload_n rfl rfl ?_
        refine j_iload rfl rfl ?_
        refine j_if_ge (tgt := 85) rfl (by decide) (by omega) (by omega) (fun hb78_1 => ?_) (fun hb78_1 => ?_)
        · skip
          refine j_iload rfl rfl ?_
          refine j_if_le (tgt := 100) rfl (by decide) (by omega) (by omega) (fun hb87_1 => ?_) (fun hb87_1 => ?_)
          · skip
            refine j_aload_n rfl rfl ?_
            refine j_getR (q := 109) rfl f_X12_78 rfl (hS.lt (by decide)) (hS.k (by decide) (by decide)) (hS.r (by decide)) ?_
            refine j_iload rfl rfl ?_
            refine j_iald (n := 24) rfl (hS.lt (by decide)) (hS.k (by decide) (by decide)) (hS.n (by decide) (by decide)) (by omega) (by omega) (by decide) ?_
            have u106_1 := mi_rng m 109 ((4 * ((mi m 89 ((4 * b) + i).toNat) / 10)) + ((mi m 89 ((4 * b) + i).toNat) % 10)).toNat
            refine j_i2l rfl (by omega) (by omega) ?_
            refine j_last (n := 170) rfl (hS.lt (by decide)) (hS.k (by decide) (by decide)) (hS.n (by decide) (by decide)) (by omega) (by omega) (by first | decide | omega) ?_
            refine j_iconst rfl ?_
            refine j_iret rfl rfl ?_ rfl (Nat.le_refl _)
            unfold FX12_readInput
            rw [if_pos hb14_1, if_pos hb38_1, if_pos hb56_1, if_pos hb78_1, if_pos hb87_1]
            exact ⟨rfl, rfl⟩
          · skip
            refine j_ldc2 (v := 9000) rfl k_X12_316 ?_
            refine j_iload rfl rfl ?_
            refine j_i2l rfl (by omega) (by omega) ?_
            refine j_ladd rfl ?_
            refine j_goto (tgt := 108) rfl (by decide) ?_
            refine j_last (n := 170) rfl (hS.lt (by decide)) (hS.k (by decide) (by decide)) (hS.n (by decide) (by decide)) (by omega) (by omega) (by first | decide | omega) ?_
            refine j_iconst rfl ?_
            refine j_iret rfl rfl ?_ rfl (Nat.le_refl _)
            unfold FX12_readInput
            rw [if_pos hb14_1, if_pos hb38_1, if_pos hb56_1, if_pos hb78_1, if_neg hb87_1]
            exact ⟨rfl, rfl⟩
        · skip
          refine j_lconst (v := 0) rfl (by decide) ?_
          refine j_goto (tgt := 108) rfl (by decide) ?_
          refine j_last (n := 170) rfl (hS.lt (by decide)) (hS.k (by decide) (by decide)) (hS.n (by decide) (by decide)) (by omega) (by omega) (by first | decide | omega) ?_
          refine j_iconst rfl ?_
          refine j_iret rfl rfl ?_ rfl (Nat.le_refl _)
          unfold FX12_readInput
          rw [if_pos hb14_1, if_pos hb38_1, if_pos hb56_1, if_neg hb78_1]
          exact ⟨rfl, rfl⟩
      · skip
        refine j_aload_n rfl rfl ?_
        refine j_getR (q := 87) rfl f_X12_7 rfl (hS.lt (by decide)) (hS.k (by decide) (by decide)) (hS.r (by decide)) ?_
        refine j_iload_n rfl rfl ?_
        refine j_iald (n := 6) rfl (hS.lt (by decide)) (hS.k (by decide) (by decide)) (hS.n (by decide) (by decide)) (by omega) (by omega) (by decide) ?_
        have u64_1 := hI.a 87 (0) 6 (by decide) b.toNat
        refine j_iconst rfl ?_
        refine j_icmp_eq (tgt := 71) rfl (by decide) (by omega) (by omega) (by omega) (by omega) (fun hb66_1 => ?_) (fun hb66_1 => ?_)
        · skip
          refine j_aload_n rfl rfl ?_
          refine j_getR (q := 115) rfl f_X12_96 rfl (hS.lt (by decide)) (hS.k (by decide) (by decide)) (hS.r (by decide)) ?_
          refine j_iload_n rfl rfl ?_
          refine j_iload rfl rfl ?_
          refine j_if_ge (tgt := 85) rfl (by decide) (by omega) (by omega) (fun hb78_2 => ?_) (fun hb78_2 => ?_)
          · skip
            refine j_iload rfl rfl ?_
            refine j_if_le (tgt := 100) rfl (by decide) (by omega) (by omega) (fun hb87_2 => ?_) (fun hb87_2 => ?_)
            · skip
              refine j_aload_n rfl rfl ?_
              refine j_getR (q := 109) rfl f_X12_78 rfl (hS.lt (by decide)) (hS.k (by decide) (by decide)) (hS.r (by decide)) ?_
              refine j_iload rfl rfl ?_
              refine j_iald (n := 24) rfl (hS.lt (by decide)) (hS.k (by decide) (by decide)) (hS.n (by decide) (by decide)) (by omega) (by omega) (by decide) ?_
              have u106_2 := mi_rng m 109 ((4 * ((mi m 89 ((4 * b) + i).toNat) / 10)) + ((mi m 89 ((4 * b) + i).toNat) % 10)).toNat
              refine j_i2l rfl (by omega) (by omega) ?_
              refine j_last (n := 170) rfl (hS.lt (by decide)) (hS.k (by decide) (by decide)) (hS.n (by decide) (by decide)) (by omega) (by omega) (by first | decide | omega) ?_
              refine j_iconst rfl ?_
              refine j_iret rfl rfl ?_ rfl (Nat.le_refl _)
              unfold FX12_readInput
              rw [if_pos hb14_1, if_pos hb38_1, if_neg hb56_1, if_pos hb66_1, if_pos hb78_2, if_pos hb87_2]
              exact ⟨rfl, rfl⟩
            · skip
              refine j_ldc2 (v := 9000) rfl k_X12_316 ?_
              refine j_iload rfl rfl ?_
              refine j_i2l rfl (by omega) (by omega) ?_
              refine j_ladd rfl ?_
              refine j_goto (tgt := 108) rfl (by decide) ?_
              refine j_last (n := 170) rfl (hS.lt (by decide)) (hS.k (by decide) (by decide)) (hS.n (by decide) (by decide)) (by omega) (by omega) (by first | decide | omega) ?_
              refine j_iconst rfl ?_
              refine j_iret rfl rfl ?_ rfl (Nat.le_refl _)
              unfold FX12_readInput
              rw [if_pos hb14_1, if_pos hb38_1, if_neg hb56_1, if_pos hb66_1, if_pos hb78_2, if_neg hb87_2]
              exact ⟨rfl, rfl⟩
          · skip
            refine j_lconst (v := 0) rfl (by decide) ?_
            refine j_goto (tgt := 108) rfl (by decide) ?_
            refine j_last (n := 170) rfl (hS.lt (by decide)) (hS.k (by decide) (by decide)) (hS.n (by decide) (by decide)) (by omega) (by omega) (by first | decide | omega) ?_
            refine j_iconst rfl ?_
            refine j_iret rfl rfl ?_ rfl (Nat.le_refl _)
            unfold FX12_readInput
            rw [if_pos hb14_1, if_pos hb38_1, if_neg hb56_1, if_pos hb66_1, if_neg hb78_2]
            exact ⟨rfl, rfl⟩
        · skip
          refine j_iconst rfl ?_
          refine j_iret rfl rfl ?_ rfl (Nat.le_refl _)
          unfold FX12_readInput
          rw [if_pos hb14_1, if_pos hb38_1, if_neg hb56_1, if_neg hb66_1]
          exact ⟨rfl, rfl⟩
    · skip
      refine j_iconst rfl ?_
      refine j_goto (tgt := 52) rfl (by decide) ?_
      refine j_istore rfl (by decide) ?_
      refine j_iload rfl rfl ?_
      refine j_if_le (tgt := 71) rfl (by decide) (by omega) (by omega) (fun hb56_2 => ?_) (fun hb56_2 => ?_)
      · skip
        refine j_aload_n rfl rfl ?_
        refine j_getR (q := 115) rfl f_X12_96 rfl (hS.lt (by decide)) (hS.k (by decide) (by decide)) (hS.r (by decide)) ?_
        refine j_iload_n rfl rfl ?_
        refine j_iload rfl rfl ?_
        refine j_if_ge (tgt := 85) rfl (by decide) (by omega) (by omega) (fun hb78_3 => ?_) (fun hb78_3 => ?_)
        · skip
          refine j_iload rfl rfl ?_
          refine j_if_le (tgt := 100) rfl (by decide) (by omega) (by omega) (fun hb87_3 => ?_) (fun hb87_3 => ?_)
          · skip
            refine j_aload_n rfl rfl ?_
            refine j_getR (q := 109) rfl f_X12_78 rfl (hS.lt (by decide)) (hS.k (by decide) (by decide)) (hS.r (by decide)) ?_
            refine j_iload rfl rfl ?_
            refine j_iald (n := 24) rfl (hS.lt (by decide)) (hS.k (by decide) (by decide)) (hS.n (by decide) (by decide)) (by omega) (by omega) (by decide) ?_
            have u106_3 := mi_rng m 109 ((4 * ((mi m 89 ((4 * b) + i).toNat) / 10)) + ((mi m 89 ((4 * b) + i).toNat) % 10)).toNat
            refine j_i2l rfl (by omega) (by omega) ?_
            refine j_last (n := 170) rfl (hS.lt (by decide)) (hS.k (by decide) (by decide)) (hS.n (by decide) (by decide)) (by omega) (by omega) (by first | decide | omega) ?_
            refine j_iconst rfl ?_
            refine j_iret rfl rfl ?_ rfl (Nat.le_refl _)
            unfold FX12_readInput
            rw [if_pos hb14_1, if_neg hb38_1, if_pos hb56_2, if_pos hb78_3, if_pos hb87_3]
            exact ⟨rfl, rfl⟩
          · skip
            refine j_ldc2 (v := 9000) rfl k_X12_316 ?_
            refine j_iload rfl rfl ?_
            refine j_i2l rfl (by omega) (by omega) ?_
            refine j_ladd rfl ?_
            refine j_goto (tgt := 108) rfl (by decide) ?_
            refine j_last (n := 170) rfl (hS.lt (by decide)) (hS.k (by decide) (by decide)) (hS.n (by decide) (by decide)) (by omega) (by omega) (by first | decide | omega) ?_
            refine j_iconst rfl ?_
            refine j_iret rfl rfl ?_ rfl (Nat.le_refl _)
            unfold FX12_readInput
            rw [if_pos hb14_1, if_neg hb38_1, if_pos hb56_2, if_pos hb78_3, if_neg hb87_3]
            exact ⟨rfl, rfl⟩
        · skip
          refine j_lconst (v := 0) rfl (by decide) ?_
          refine j_goto (tgt := 108) rfl (by decide) ?_
          refine j_last (n := 170) rfl (hS.lt (by decide)) (hS.k (by decide) (by decide)) (hS.n (by decide) (by decide)) (by omega) (by omega) (by first | decide | omega) ?_
          refine j_iconst rfl ?_
          refine j_iret rfl rfl ?_ rfl (Nat.le_refl _)
          unfold FX12_readInput
          rw [if_pos hb14_1, if_neg hb38_1, if_pos hb56_2, if_neg hb78_3]
          exact ⟨rfl, rfl⟩
      · skip
        refine j_aload_n rfl rfl ?_
        refine j_getR (q := 87) rfl f_X12_7 rfl (hS.lt (by decide)) (hS.k (by decide) (by decide)) (hS.r (by decide)) ?_
        refine j_iload_n rfl rfl ?_
        refine j_iald (n := 6) rfl (hS.lt (by decide)) (hS.k (by decide) (by decide)) (hS.n (by decide) (by decide)) (by omega) (by omega) (by decide) ?_
        have u64_2 := hI.a 87 (0) 6 (by decide) b.toNat
        refine j_iconst rfl ?_
        refine j_icmp_eq (tgt := 71) rfl (by decide) (by omega) (by omega) (by omega) (by omega) (fun hb66_2 => ?_) (fun hb66_2 => ?_)
        · skip
          refine j_aload_n rfl rfl ?_
          refine j_getR (q := 115) rfl f_X12_96 rfl (hS.lt (by decide)) (hS.k (by decide) (by decide)) (hS.r (by decide)) ?_
          refine j_iload_n rfl rfl ?_
          refine j_iload rfl rfl ?_
          refine j_if_ge (tgt := 85) rfl (by decide) (by omega) (by omega) (fun hb78_4 => ?_) (fun hb78_4 => ?_)
          · skip
            refine j_iload rfl rfl ?_
            refine j_if_le (tgt := 100) rfl (by decide) (by omega) (by omega) (fun hb87_4 => ?_) (fun hb87_4 => ?_)
            · skip
              refine j_aload_n rfl rfl ?_
              refine j_getR (q := 109) rfl f_X12_78 rfl (hS.lt (by decide)) (hS.k (by decide) (by decide)) (hS.r (by decide)) ?_
              refine j_iload rfl rfl ?_
              refine j_iald (n := 24) rfl (hS.lt (by decide)) (hS.k (by decide) (by decide)) (hS.n (by decide) (by decide)) (by omega) (by omega) (by decide) ?_
              have u106_4 := mi_rng m 109 ((4 * ((mi m 89 ((4 * b) + i).toNat) / 10)) + ((mi m 89 ((4 * b) + i).toNat) % 10)).toNat
              refine j_i2l rfl (by omega) (by omega) ?_
              refine j_last (n := 170) rfl (hS.lt (by decide)) (hS.k (by decide) (by decide)) (hS.n (by decide) (by decide)) (by omega) (by omega) (by first | decide | omega) ?_
              refine j_iconst rfl ?_
              refine j_iret rfl rfl ?_ rfl (Nat.le_refl _)
              unfold FX12_readInput
              rw [if_pos hb14_1, if_neg hb38_1, if_neg hb56_2, if_pos hb66_2, if_pos hb78_4, if_pos hb87_4]
              exact ⟨rfl, rfl⟩
            · skip
              refine j_ldc2 (v := 9000) rfl k_X12_316 ?_
              refine j_iload rfl rfl ?_
              refine j_i2l rfl (by omega) (by omega) ?_
              refine j_ladd rfl ?_
              refine j_goto (tgt := 108) rfl (by decide) ?_
              refine j_last (n := 170) rfl (hS.lt (by decide)) (hS.k (by decide) (by decide)) (hS.n (by decide) (by decide)) (by omega) (by omega) (by first | decide | omega) ?_
              refine j_iconst rfl ?_
              refine j_iret rfl rfl ?_ rfl (Nat.le_refl _)
              unfold FX12_readInput
              rw [if_pos hb14_1, if_neg hb38_1, if_neg hb56_2, if_pos hb66_2, if_pos hb78_4, if_neg hb87_4]
              exact ⟨rfl, rfl⟩
          · skip
            refine j_lconst (v := 0) rfl (by decide) ?_
            refine j_goto (tgt := 108) rfl (by decide) ?_
            refine j_last (n := 170) rfl (hS.lt (by decide)) (hS.k (by decide) (by decide)) (hS.n (by decide) (by decide)) (by omega) (by omega) (by first | decide | omega) ?_
            refine j_iconst rfl ?_
            refine j_iret rfl rfl ?_ rfl (Nat.le_refl _)
            unfold FX12_readInput
            rw [if_pos hb14_1, if_neg hb38_1, if_neg hb56_2, if_pos hb66_2, if_neg hb78_4]
            exact ⟨rfl, rfl⟩
        · skip
          refine j_iconst rfl ?_
          refine j_iret rfl rfl ?_ rfl (Nat.le_refl _)
          unfold FX12_readInput
          rw [if_pos hb14_1, if_neg hb38_1, if_neg hb56_2, if_neg hb66_2]
          exact ⟨rfl, rfl⟩
  · skip
    refine j_iconst rfl ?_
    refine j_goto (tgt := 34) rfl (by decide) ?_
    refine j_istore rfl (by decide) ?_
    refine j_iload rfl rfl ?_
    refine j_if_ge (tgt := 45) rfl (by decide) (by omega) (by omega) (fun hb38_2 => ?_) (fun hb38_2 => ?_)
    · skip
      have hff := hf1 (4 * (mi m 89 (4 * b + i).toNat / 10) + mi m 89 (4 * b + i).toNat % 10).toNat
      refine j_aload_n rfl rfl ?_
      refine j_getR (q := 110) rfl f_X12_81 rfl (hS.lt (by decide)) (hS.k (by decide) (by decide)) (hS.r (by decide)) ?_
      refine j_iload rfl rfl ?_
      refine j_iald (n := 24) rfl (hS.lt (by decide)) (hS.k (by decide) (by decide)) (hS.n (by decide) (by decide)) (by omega) (by omega) (by decide) ?_
      have u51_2 := mi_rng m 110 (0 : Int).toNat
      refine j_istore rfl (by decide) ?_
      refine j_iload rfl rfl ?_
      refine j_if_le (tgt := 71) rfl (by decide) (by omega) (by omega) (fun hb56_3 => ?_) (fun hb56_3 => ?_)
      · skip
        refine j_aload_n rfl rfl ?_
        refine j_getR (q := 115) rfl f_X12_96 rfl (hS.lt (by decide)) (hS.k (by decide) (by decide)) (hS.r (by decide)) ?_
        refine j_iload_n rfl rfl ?_
        refine j_iload rfl rfl ?_
        refine j_if_ge (tgt := 85) rfl (by decide) (by omega) (by omega) (fun hb78_5 => ?_) (fun hb78_5 => ?_)
        · skip
          refine j_iload rfl rfl ?_
          refine j_if_le (tgt := 100) rfl (by decide) (by omega) (by omega) (fun hb87_5 => ?_) (fun hb87_5 => ?_)
          · skip
            refine j_aload_n rfl rfl ?_
            refine j_getR (q := 109) rfl f_X12_78 rfl (hS.lt (by decide)) (hS.k (by decide) (by decide)) (hS.r (by decide)) ?_
            refine j_iload rfl rfl ?_
            refine j_iald (n := 24) rfl (hS.lt (by decide)) (hS.k (by decide) (by decide)) (hS.n (by decide) (by decide)) (by omega) (by omega) (by decide) ?_
            have u106_5 := mi_rng m 109 (0 : Int).toNat
            refine j_i2l rfl (by omega) (by omega) ?_
            refine j_last (n := 170) rfl (hS.lt (by decide)) (hS.k (by decide) (by decide)) (hS.n (by decide) (by decide)) (by omega) (by omega) (by first | decide | omega) ?_
            refine j_iconst rfl ?_
            refine j_iret rfl rfl ?_ rfl (Nat.le_refl _)
            unfold FX12_readInput
            rw [if_neg hb14_1, if_pos hb38_2, if_pos hb56_3, if_pos hb78_5, if_pos hb87_5]
            exact ⟨rfl, rfl⟩
          · skip
            refine j_ldc2 (v := 9000) rfl k_X12_316 ?_
            refine j_iload rfl rfl ?_
            refine j_i2l rfl (by omega) (by omega) ?_
            refine j_ladd rfl ?_
            refine j_goto (tgt := 108) rfl (by decide) ?_
            refine j_last (n := 170) rfl (hS.lt (by decide)) (hS.k (by decide) (by decide)) (hS.n (by decide) (by decide)) (by omega) (by omega) (by first | decide | omega) ?_
            refine j_iconst rfl ?_
            refine j_iret rfl rfl ?_ rfl (Nat.le_refl _)
            unfold FX12_readInput
            rw [if_neg hb14_1, if_pos hb38_2, if_pos hb56_3, if_pos hb78_5, if_neg hb87_5]
            exact ⟨rfl, rfl⟩
        · skip
          refine j_lconst (v := 0) rfl (by decide) ?_
          refine j_goto (tgt := 108) rfl (by decide) ?_
          refine j_last (n := 170) rfl (hS.lt (by decide)) (hS.k (by decide) (by decide)) (hS.n (by decide) (by decide)) (by omega) (by omega) (by first | decide | omega) ?_
          refine j_iconst rfl ?_
          refine j_iret rfl rfl ?_ rfl (Nat.le_refl _)
          unfold FX12_readInput
          rw [if_neg hb14_1, if_pos hb38_2, if_pos hb56_3, if_neg hb78_5]
          exact ⟨rfl, rfl⟩
      · skip
        refine j_aload_n rfl rfl ?_
        refine j_getR (q := 87) rfl f_X12_7 rfl (hS.lt (by decide)) (hS.k (by decide) (by decide)) (hS.r (by decide)) ?_
        refine j_iload_n rfl rfl ?_
        refine j_iald (n := 6) rfl (hS.lt (by decide)) (hS.k (by decide) (by decide)) (hS.n (by decide) (by decide)) (by omega) (by omega) (by decide) ?_
        have u64_3 := hI.a 87 (0) 6 (by decide) b.toNat
        refine j_iconst rfl ?_
        refine j_icmp_eq (tgt := 71) rfl (by decide) (by omega) (by omega) (by omega) (by omega) (fun hb66_3 => ?_) (fun hb66_3 => ?_)
        · skip
          refine j_aload_n rfl rfl ?_
          refine j_getR (q := 115) rfl f_X12_96 rfl (hS.lt (by decide)) (hS.k (by decide) (by decide)) (hS.r (by decide)) ?_
          refine j_iload_n rfl rfl ?_
          refine j_iload rfl rfl ?_
          refine j_if_ge (tgt := 85) rfl (by decide) (by omega) (by omega) (fun hb78_6 => ?_) (fun hb78_6 => ?_)
          · skip
            refine j_iload rfl rfl ?_
            refine j_if_le (tgt := 100) rfl (by decide) (by omega) (by omega) (fun hb87_6 => ?_) (fun hb87_6 => ?_)
            · skip
              refine j_aload_n rfl rfl ?_
              refine j_getR (q := 109) rfl f_X12_78 rfl (hS.lt (by decide)) (hS.k (by decide) (by decide)) (hS.r (by decide)) ?_
              refine j_iload rfl rfl ?_
              refine j_iald (n := 24) rfl (hS.lt (by decide)) (hS.k (by decide) (by decide)) (hS.n (by decide) (by decide)) (by omega) (by omega) (by decide) ?_
              have u106_6 := mi_rng m 109 (0 : Int).toNat
              refine j_i2l rfl (by omega) (by omega) ?_
              refine j_last (n := 170) rfl (hS.lt (by decide)) (hS.k (by decide) (by decide)) (hS.n (by decide) (by decide)) (by omega) (by omega) (by first | decide | omega) ?_
              refine j_iconst rfl ?_
              refine j_iret rfl rfl ?_ rfl (Nat.le_refl _)
              unfold FX12_readInput
              rw [if_neg hb14_1, if_pos hb38_2, if_neg hb56_3, if_pos hb66_3, if_pos hb78_6, if_pos hb87_6]
              exact ⟨rfl, rfl⟩
            · skip
              refine j_ldc2 (v := 9000) rfl k_X12_316 ?_
              refine j_iload rfl rfl ?_
              refine j_i2l rfl (by omega) (by omega) ?_
              refine j_ladd rfl ?_
              refine j_goto (tgt := 108) rfl (by decide) ?_
              refine j_last (n := 170) rfl (hS.lt (by decide)) (hS.k (by decide) (by decide)) (hS.n (by decide) (by decide)) (by omega) (by omega) (by first | decide | omega) ?_
              refine j_iconst rfl ?_
              refine j_iret rfl rfl ?_ rfl (Nat.le_refl _)
              unfold FX12_readInput
              rw [if_neg hb14_1, if_pos hb38_2, if_neg hb56_3, if_pos hb66_3, if_pos hb78_6, if_neg hb87_6]
              exact ⟨rfl, rfl⟩
          · skip
            refine j_lconst (v := 0) rfl (by decide) ?_
            refine j_goto (tgt := 108) rfl (by decide) ?_
            refine j_last (n := 170) rfl (hS.lt (by decide)) (hS.k (by decide) (by decide)) (hS.n (by decide) (by decide)) (by omega) (by omega) (by first | decide | omega) ?_
            refine j_iconst rfl ?_
            refine j_iret rfl rfl ?_ rfl (Nat.le_refl _)
            unfold FX12_readInput
            rw [if_neg hb14_1, if_pos hb38_2, if_neg hb56_3, if_pos hb66_3, if_neg hb78_6]
            exact ⟨rfl, rfl⟩
        · skip
          refine j_iconst rfl ?_
          refine j_iret rfl rfl ?_ rfl (Nat.le_refl _)
          unfold FX12_readInput
          rw [if_neg hb14_1, if_pos hb38_2, if_neg hb56_3, if_neg hb66_3]
          exact ⟨rfl, rfl⟩
    · skip
      refine j_iconst rfl ?_
      refine j_goto (tgt := 52) rfl (by decide) ?_
      refine j_istore rfl (by decide) ?_
      refine j_iload rfl rfl ?_
      refine j_if_le (tgt := 71) rfl (by decide) (by omega) (by omega) (fun hb56_4 => ?_) (fun hb56_4 => ?_)
      · skip
        refine j_aload_n rfl rfl ?_
        refine j_getR (q := 115) rfl f_X12_96 rfl (hS.lt (by decide)) (hS.k (by decide) (by decide)) (hS.r (by decide)) ?_
        refine j_iload_n rfl rfl ?_
        refine j_iload rfl rfl ?_
        refine j_if_ge (tgt := 85) rfl (by decide) (by omega) (by omega) (fun hb78_7 => ?_) (fun hb78_7 => ?_)
        · skip
          refine j_iload rfl rfl ?_
          refine j_if_le (tgt := 100) rfl (by decide) (by omega) (by omega) (fun hb87_7 => ?_) (fun hb87_7 => ?_)
          · skip
            refine j_aload_n rfl rfl ?_
            refine j_getR (q := 109) rfl f_X12_78 rfl (hS.lt (by decide)) (hS.k (by decide) (by decide)) (hS.r (by decide)) ?_
            refine j_iload rfl rfl ?_
            refine j_iald (n := 24) rfl (hS.lt (by decide)) (hS.k (by decide) (by decide)) (hS.n (by decide) (by decide)) (by omega) (by omega) (by decide) ?_
            have u106_7 := mi_rng m 109 (0 : Int).toNat
            refine j_i2l rfl (by omega) (by omega) ?_
            refine j_last (n := 170) rfl (hS.lt (by decide)) (hS.k (by decide) (by decide)) (hS.n (by decide) (by decide)) (by omega) (by omega) (by first | decide | omega) ?_
            refine j_iconst rfl ?_
            refine j_iret rfl rfl ?_ rfl (Nat.le_refl _)
            unfold FX12_readInput
            rw [if_neg hb14_1, if_neg hb38_2, if_pos hb56_4, if_pos hb78_7, if_pos hb87_7]
            exact ⟨rfl, rfl⟩
          · skip
            refine j_ldc2 (v := 9000) rfl k_X12_316 ?_
            refine j_iload rfl rfl ?_
            refine j_i2l rfl (by omega) (by omega) ?_
            refine j_ladd rfl ?_
            refine j_goto (tgt := 108) rfl (by decide) ?_
            refine j_last (n := 170) rfl (hS.lt (by decide)) (hS.k (by decide) (by decide)) (hS.n (by decide) (by decide)) (by omega) (by omega) (by first | decide | omega) ?_
            refine j_iconst rfl ?_
            refine j_iret rfl rfl ?_ rfl (Nat.le_refl _)
            unfold FX12_readInput
            rw [if_neg hb14_1, if_neg hb38_2, if_pos hb56_4, if_pos hb78_7, if_neg hb87_7]
            exact ⟨rfl, rfl⟩
        · skip
          refine j_lconst (v := 0) rfl (by decide) ?_
          refine j_goto (tgt := 108) rfl (by decide) ?_
          refine j_last (n := 170) rfl (hS.lt (by decide)) (hS.k (by decide) (by decide)) (hS.n (by decide) (by decide)) (by omega) (by omega) (by first | decide | omega) ?_
          refine j_iconst rfl ?_
          refine j_iret rfl rfl ?_ rfl (Nat.le_refl _)
          unfold FX12_readInput
          rw [if_neg hb14_1, if_neg hb38_2, if_pos hb56_4, if_neg hb78_7]
          exact ⟨rfl, rfl⟩
      · skip
        refine j_aload_n rfl rfl ?_
        refine j_getR (q := 87) rfl f_X12_7 rfl (hS.lt (by decide)) (hS.k (by decide) (by decide)) (hS.r (by decide)) ?_
        refine j_iload_n rfl rfl ?_
        refine j_iald (n := 6) rfl (hS.lt (by decide)) (hS.k (by decide) (by decide)) (hS.n (by decide) (by decide)) (by omega) (by omega) (by decide) ?_
        have u64_4 := hI.a 87 (0) 6 (by decide) b.toNat
        refine j_iconst rfl ?_
        refine j_icmp_eq (tgt := 71) rfl (by decide) (by omega) (by omega) (by omega) (by omega) (fun hb66_4 => ?_) (fun hb66_4 => ?_)
        · skip
          refine j_aload_n rfl rfl ?_
          refine j_getR (q := 115) rfl f_X12_96 rfl (hS.lt (by decide)) (hS.k (by decide) (by decide)) (hS.r (by decide)) ?_
          refine j_iload_n rfl rfl ?_
          refine j_iload rfl rfl ?_
          refine j_if_ge (tgt := 85) rfl (by decide) (by omega) (by omega) (fun hb78_8 => ?_) (fun hb78_8 => ?_)
          · skip
            refine j_iload rfl rfl ?_
            refine j_if_le (tgt := 100) rfl (by decide) (by omega) (by omega) (fun hb87_8 => ?_) (fun hb87_8 => ?_)
            · skip
              refine j_aload_n rfl rfl ?_
              refine j_getR (q := 109) rfl f_X12_78 rfl (hS.lt (by decide)) (hS.k (by decide) (by decide)) (hS.r (by decide)) ?_
              refine j_iload rfl rfl ?_
              refine j_iald (n := 24) rfl (hS.lt (by decide)) (hS.k (by decide) (by decide)) (hS.n (by decide) (by decide)) (by omega) (by omega) (by decide) ?_
              have u106_8 := mi_rng m 109 (0 : Int).toNat
              refine j_i2l rfl (by omega) (by omega) ?_
              refine j_last (n := 170) rfl (hS.lt (by decide)) (hS.k (by decide) (by decide)) (hS.n (by decide) (by decide)) (by omega) (by omega) (by first | decide | omega) ?_
              refine j_iconst rfl ?_
              refine j_iret rfl rfl ?_ rfl (Nat.le_refl _)
              unfold FX12_readInput
              rw [if_neg hb14_1, if_neg hb38_2, if_neg hb56_4, if_pos hb66_4, if_pos hb78_8, if_pos hb87_8]
              exact ⟨rfl, rfl⟩
            · skip
              refine j_ldc2 (v := 9000) rfl k_X12_316 ?_
              refine j_iload rfl rfl ?_
              refine j_i2l rfl (by omega) (by omega) ?_
              refine j_ladd rfl ?_
              refine j_goto (tgt := 108) rfl (by decide) ?_
              refine j_last (n := 170) rfl (hS.lt (by decide)) (hS.k (by decide) (by decide)) (hS.n (by decide) (by decide)) (by omega) (by omega) (by first | decide | omega) ?_
              refine j_iconst rfl ?_
              refine j_iret rfl rfl ?_ rfl (Nat.le_refl _)
              unfold FX12_readInput
              rw [if_neg hb14_1, if_neg hb38_2, if_neg hb56_4, if_pos hb66_4, if_pos hb78_8, if_neg hb87_8]
              exact ⟨rfl, rfl⟩
          · skip
            refine j_lconst (v := 0) rfl (by decide) ?_
            refine j_goto (tgt := 108) rfl (by decide) ?_
            refine j_last (n := 170) rfl (hS.lt (by decide)) (hS.k (by decide) (by decide)) (hS.n (by decide) (by decide)) (by omega) (by omega) (by first | decide | omega) ?_
            refine j_iconst rfl ?_
            refine j_iret rfl rfl ?_ rfl (Nat.le_refl _)
            unfold FX12_readInput
            rw [if_neg hb14_1, if_neg hb38_2, if_neg hb56_4, if_pos hb66_4, if_neg hb78_8]
            exact ⟨rfl, rfl⟩
        · skip
          refine j_iconst rfl ?_
          refine j_iret rfl rfl ?_ rfl (Nat.le_refl _)
          unfold FX12_readInput
          rw [if_neg hb14_1, if_neg hb38_2, if_neg hb56_4, if_neg hb66_4]
          exact ⟨rfl, rfl⟩

def FX12_twoOf (m : AM) (what : Int) (a : Int) (b : Int) : Int :=
  if what = 37 then
    a.tmod b
  else
    if what = 38 then
      if a = 0 then
        0
      else
        if b = 0 then
          0
        else
          1
    else
      if what = 42 then
        a * b
      else
        if what = 43 then
          a + b
        else
          if what = 45 then
            a - b
          else
            if what = 47 then
              a.tdiv b
            else
              if what = 60 then
                if a ≥ b then
                  0
                else
                  1
              else
                if what = 61 then
                  if a ≠ b then
                    0
                  else
                    1
                else
                  if what = 62 then
                    if a ≤ b then
                      0
                    else
                      1
                  else
                    if a ≠ 0 then
                      1
                    else
                      if b = 0 then
                        0
                      else
                        1
set_option maxRecDepth 20000 in
set_option maxHeartbeats 4000000 in
theorem ct_X12_twoOf {G : QW} {m : AM} {what : Int} {a : Int} {b : Int} (hwhat1 : -2147483648 ≤ what) (hwhat2 : what < 2147483648) (h3 : -1000000000 ≤ a) (h4 : a ≤ 1000000000) (h5 : -1000000000 ≤ b) (h6 : b ≤ 1000000000) (h7 : what = 47 ∨ what = 37 → b ≠ 0) : qM G mX12_twoOf 0 0 0 [vI what, vL a, vL b] m (fun r m' => r = some (vL (FX12_twoOf m what a b)) ∧ m' = m) := by
  refine qM.intro okX12_twoOf (Nat.le_of_ble_eq_true rfl) ?_
  refine j_iload_n rfl rfl ?_
  by_cases hs1_1_37 : what = 37
  · skip
    refine j_tableIn (tgt := 136) rfl (by omega) (by omega) (by omega) (by omega) (by rw [hs1_1_37]; rfl) (by decide) ?_
    refine j_lload_n rfl rfl ?_
    refine j_lload_n rfl rfl ?_
    refine j_lrem rfl (by omega) (by omega) (by omega) (by omega) (by omega) ?_
    refine j_lret rfl rfl ?_ rfl (Nat.le_refl _)
    unfold FX12_twoOf
    rw [if_pos hs1_1_37]
    exact ⟨rfl, rfl⟩
  · skip
    by_cases hs1_1_38 : what = 38
    · skip
      refine j_tableIn (tgt := 176) rfl (by omega) (by omega) (by omega) (by omega) (by rw [hs1_1_38]; rfl) (by decide) ?_
      refine j_lload_n rfl rfl ?_
      refine j_lconst (v := 0) rfl (by decide) ?_
      refine j_lc_eq (tgt := 192) rfl rfl (by decide) (by omega) (by omega) (by omega) (by omega) (fun hb178_1 => ?_) (fun hb178_1 => ?_)
      · skip
        refine j_lconst (v := 0) rfl (by decide) ?_
        refine j_lret rfl rfl ?_ rfl (Nat.le_refl _)
        unfold FX12_twoOf
        rw [if_neg hs1_1_37, if_pos hs1_1_38, if_pos hb178_1]
        exact ⟨rfl, rfl⟩
      · skip
        refine j_lload_n rfl rfl ?_
        refine j_lconst (v := 0) rfl (by decide) ?_
        refine j_lc_eq (tgt := 192) rfl rfl (by decide) (by omega) (by omega) (by omega) (by omega) (fun hb184_1 => ?_) (fun hb184_1 => ?_)
        · skip
          refine j_lconst (v := 0) rfl (by decide) ?_
          refine j_lret rfl rfl ?_ rfl (Nat.le_refl _)
          unfold FX12_twoOf
          rw [if_neg hs1_1_37, if_pos hs1_1_38, if_neg hb178_1, if_pos hb184_1]
          exact ⟨rfl, rfl⟩
        · skip
          refine j_lconst (v := 1) rfl (by decide) ?_
          refine j_goto (tgt := 193) rfl (by decide) ?_
          refine j_lret rfl rfl ?_ rfl (Nat.le_refl _)
          unfold FX12_twoOf
          rw [if_neg hs1_1_37, if_pos hs1_1_38, if_neg hb178_1, if_neg hb184_1]
          exact ⟨rfl, rfl⟩
    · skip
      by_cases hs1_1_42 : what = 42
      · skip
        refine j_tableIn (tgt := 128) rfl (by omega) (by omega) (by omega) (by omega) (by rw [hs1_1_42]; rfl) (by decide) ?_
        refine j_lload_n rfl rfl ?_
        refine j_lload_n rfl rfl ?_
        refine j_lmul rfl ?_
        refine j_lret rfl rfl ?_ rfl (Nat.le_refl _)
        unfold FX12_twoOf
        rw [if_neg hs1_1_37, if_neg hs1_1_38, if_pos hs1_1_42]
        exact ⟨rfl, rfl⟩
      · skip
        by_cases hs1_1_43 : what = 43
        · skip
          refine j_tableIn (tgt := 120) rfl (by omega) (by omega) (by omega) (by omega) (by rw [hs1_1_43]; rfl) (by decide) ?_
          refine j_lload_n rfl rfl ?_
          refine j_lload_n rfl rfl ?_
          refine j_ladd rfl ?_
          refine j_lret rfl rfl ?_ rfl (Nat.le_refl _)
          unfold FX12_twoOf
          rw [if_neg hs1_1_37, if_neg hs1_1_38, if_neg hs1_1_42, if_pos hs1_1_43]
          exact ⟨rfl, rfl⟩
        · skip
          by_cases hs1_1_45 : what = 45
          · skip
            refine j_tableIn (tgt := 124) rfl (by omega) (by omega) (by omega) (by omega) (by rw [hs1_1_45]; rfl) (by decide) ?_
            refine j_lload_n rfl rfl ?_
            refine j_lload_n rfl rfl ?_
            refine j_lsub rfl ?_
            refine j_lret rfl rfl ?_ rfl (Nat.le_refl _)
            unfold FX12_twoOf
            rw [if_neg hs1_1_37, if_neg hs1_1_38, if_neg hs1_1_42, if_neg hs1_1_43, if_pos hs1_1_45]
            exact ⟨rfl, rfl⟩
          · skip
            by_cases hs1_1_47 : what = 47
            · skip
              refine j_tableIn (tgt := 132) rfl (by omega) (by omega) (by omega) (by omega) (by rw [hs1_1_47]; rfl) (by decide) ?_
              refine j_lload_n rfl rfl ?_
              refine j_lload_n rfl rfl ?_
              refine j_ldiv rfl (by omega) (by omega) (by omega) (by omega) (by omega) ?_
              refine j_lret rfl rfl ?_ rfl (Nat.le_refl _)
              unfold FX12_twoOf
              rw [if_neg hs1_1_37, if_neg hs1_1_38, if_neg hs1_1_42, if_neg hs1_1_43, if_neg hs1_1_45, if_pos hs1_1_47]
              exact ⟨rfl, rfl⟩
            · skip
              by_cases hs1_1_60 : what = 60
              · skip
                refine j_tableIn (tgt := 140) rfl (by omega) (by omega) (by omega) (by omega) (by rw [hs1_1_60]; rfl) (by decide) ?_
                refine j_lload_n rfl rfl ?_
                refine j_lload_n rfl rfl ?_
                refine j_lc_ge (tgt := 150) rfl rfl (by decide) (by omega) (by omega) (by omega) (by omega) (fun hb142_1 => ?_) (fun hb142_1 => ?_)
                · skip
                  refine j_lconst (v := 0) rfl (by decide) ?_
                  refine j_lret rfl rfl ?_ rfl (Nat.le_refl _)
                  unfold FX12_twoOf
                  rw [if_neg hs1_1_37, if_neg hs1_1_38, if_neg hs1_1_42, if_neg hs1_1_43, if_neg hs1_1_45, if_neg hs1_1_47, if_pos hs1_1_60, if_pos hb142_1]
                  exact ⟨rfl, rfl⟩
                · skip
                  refine j_lconst (v := 1) rfl (by decide) ?_
                  refine j_goto (tgt := 151) rfl (by decide) ?_
                  refine j_lret rfl rfl ?_ rfl (Nat.le_refl _)
                  unfold FX12_twoOf
                  rw [if_neg hs1_1_37, if_neg hs1_1_38, if_neg hs1_1_42, if_neg hs1_1_43, if_neg hs1_1_45, if_neg hs1_1_47, if_pos hs1_1_60, if_neg hb142_1]
                  exact ⟨rfl, rfl⟩
              · skip
                by_cases hs1_1_61 : what = 61
                · skip
                  refine j_tableIn (tgt := 152) rfl (by omega) (by omega) (by omega) (by omega) (by rw [hs1_1_61]; rfl) (by decide) ?_
                  refine j_lload_n rfl rfl ?_
                  refine j_lload_n rfl rfl ?_
                  refine j_lc_ne (tgt := 162) rfl rfl (by decide) (by omega) (by omega) (by omega) (by omega) (fun hb154_1 => ?_) (fun hb154_1 => ?_)
                  · skip
                    refine j_lconst (v := 0) rfl (by decide) ?_
                    refine j_lret rfl rfl ?_ rfl (Nat.le_refl _)
                    unfold FX12_twoOf
                    rw [if_neg hs1_1_37, if_neg hs1_1_38, if_neg hs1_1_42, if_neg hs1_1_43, if_neg hs1_1_45, if_neg hs1_1_47, if_neg hs1_1_60, if_pos hs1_1_61, if_pos hb154_1]
                    exact ⟨rfl, rfl⟩
                  · skip
                    refine j_lconst (v := 1) rfl (by decide) ?_
                    refine j_goto (tgt := 163) rfl (by decide) ?_
                    refine j_lret rfl rfl ?_ rfl (Nat.le_refl _)
                    unfold FX12_twoOf
                    rw [if_neg hs1_1_37, if_neg hs1_1_38, if_neg hs1_1_42, if_neg hs1_1_43, if_neg hs1_1_45, if_neg hs1_1_47, if_neg hs1_1_60, if_pos hs1_1_61, if_neg (not_not_intro hb154_1)]
                    exact ⟨rfl, rfl⟩
                · skip
                  by_cases hs1_1_62 : what = 62
                  · skip
                    refine j_tableIn (tgt := 164) rfl (by omega) (by omega) (by omega) (by omega) (by rw [hs1_1_62]; rfl) (by decide) ?_
                    refine j_lload_n rfl rfl ?_
                    refine j_lload_n rfl rfl ?_
                    refine j_lc_le (tgt := 174) rfl rfl (by decide) (by omega) (by omega) (by omega) (by omega) (fun hb166_1 => ?_) (fun hb166_1 => ?_)
                    · skip
                      refine j_lconst (v := 0) rfl (by decide) ?_
                      refine j_lret rfl rfl ?_ rfl (Nat.le_refl _)
                      unfold FX12_twoOf
                      rw [if_neg hs1_1_37, if_neg hs1_1_38, if_neg hs1_1_42, if_neg hs1_1_43, if_neg hs1_1_45, if_neg hs1_1_47, if_neg hs1_1_60, if_neg hs1_1_61, if_pos hs1_1_62, if_pos hb166_1]
                      exact ⟨rfl, rfl⟩
                    · skip
                      refine j_lconst (v := 1) rfl (by decide) ?_
                      refine j_goto (tgt := 175) rfl (by decide) ?_
                      refine j_lret rfl rfl ?_ rfl (Nat.le_refl _)
                      unfold FX12_twoOf
                      rw [if_neg hs1_1_37, if_neg hs1_1_38, if_neg hs1_1_42, if_neg hs1_1_43, if_neg hs1_1_45, if_neg hs1_1_47, if_neg hs1_1_60, if_neg hs1_1_61, if_pos hs1_1_62, if_neg hb166_1]
                      exact ⟨rfl, rfl⟩
                  · skip
                    refine j_tableDef (tgt := 194) rfl (by omega) (by omega) (by rcases (show what < 37 ∨ 62 < what ∨ what = 39 ∨ what = 40 ∨ what = 41 ∨ what = 44 ∨ what = 46 ∨ what = 48 ∨ what = 49 ∨ what = 50 ∨ what = 51 ∨ what = 52 ∨ what = 53 ∨ what = 54 ∨ what = 55 ∨ what = 56 ∨ what = 57 ∨ what = 58 ∨ what = 59 from by omega) with q | q | q | q | q | q | q | q | q | q | q | q | q | q | q | q | q | q | q <;> first | exact Or.inl q | exact Or.inr (Or.inl q) | (rw [q]; exact Or.inr (Or.inr rfl))) (by decide) ?_
                    refine j_lload_n rfl rfl ?_
                    refine j_lconst (v := 0) rfl (by decide) ?_
                    refine j_lc_ne (tgt := 206) rfl rfl (by decide) (by omega) (by omega) (by omega) (by omega) (fun hb196_1 => ?_) (fun hb196_1 => ?_)
                    · skip
                      refine j_lconst (v := 1) rfl (by decide) ?_
                      refine j_goto (tgt := 211) rfl (by decide) ?_
                      refine j_lret rfl rfl ?_ rfl (Nat.le_refl _)
                      unfold FX12_twoOf
                      rw [if_neg hs1_1_37, if_neg hs1_1_38, if_neg hs1_1_42, if_neg hs1_1_43, if_neg hs1_1_45, if_neg hs1_1_47, if_neg hs1_1_60, if_neg hs1_1_61, if_neg hs1_1_62, if_pos hb196_1]
                      exact ⟨rfl, rfl⟩
                    · skip
                      refine j_lload_n rfl rfl ?_
                      refine j_lconst (v := 0) rfl (by decide) ?_
                      refine j_lc_eq (tgt := 210) rfl rfl (by decide) (by omega) (by omega) (by omega) (by omega) (fun hb202_1 => ?_) (fun hb202_1 => ?_)
                      · skip
                        refine j_lconst (v := 0) rfl (by decide) ?_
                        refine j_lret rfl rfl ?_ rfl (Nat.le_refl _)
                        unfold FX12_twoOf
                        rw [if_neg hs1_1_37, if_neg hs1_1_38, if_neg hs1_1_42, if_neg hs1_1_43, if_neg hs1_1_45, if_neg hs1_1_47, if_neg hs1_1_60, if_neg hs1_1_61, if_neg hs1_1_62, if_neg (not_not_intro hb196_1), if_pos hb202_1]
                        exact ⟨rfl, rfl⟩
                      · skip
                        refine j_lconst (v := 1) rfl (by decide) ?_
                        refine j_goto (tgt := 211) rfl (by decide) ?_
                        refine j_lret rfl rfl ?_ rfl (Nat.le_refl _)
                        unfold FX12_twoOf
                        rw [if_neg hs1_1_37, if_neg hs1_1_38, if_neg hs1_1_42, if_neg hs1_1_43, if_neg hs1_1_45, if_neg hs1_1_47, if_neg hs1_1_60, if_neg hs1_1_61, if_neg hs1_1_62, if_neg (not_not_intro hb196_1), if_neg hb202_1]
                        exact ⟨rfl, rfl⟩


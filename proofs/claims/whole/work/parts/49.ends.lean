def FX12_lesser (m : AM) (a : Int) (b : Int) : Int :=
  if a ≥ b then
    b
  else
    a
set_option maxRecDepth 20000 in
set_option maxHeartbeats 4000000 in
theorem ct_X12_lesser {G : QW} {m : AM} {a : Int} {b : Int} (ha3 : -9223372036854775808 ≤ a) (ha4 : a < 9223372036854775808) (hb3 : -9223372036854775808 ≤ b) (hb4 : b < 9223372036854775808) : qM G mX12_lesser 0 0 0 [vL a, vL b] m (fun r m' => r = some (vL (FX12_lesser m a b)) ∧ m' = m) := by
  refine qM.intro okX12_lesser (Nat.le_of_ble_eq_true rfl) ?_
  refine j_lload_n rfl rfl ?_
  refine j_lload_n rfl rfl ?_
  refine j_lc_ge (tgt := 10) rfl rfl (by decide) (by omega) (by omega) (by omega) (by omega) (fun hb2_1 => ?_) (fun hb2_1 => ?_)
  · skip
    refine j_lload_n rfl rfl ?_
    refine j_lret rfl rfl ?_ rfl (Nat.le_refl _)
    unfold FX12_lesser
    rw [if_pos hb2_1]
    exact ⟨rfl, rfl⟩
  · skip
    refine j_lload_n rfl rfl ?_
    refine j_goto (tgt := 11) rfl (by decide) ?_
    refine j_lret rfl rfl ?_ rfl (Nat.le_refl _)
    unfold FX12_lesser
    rw [if_neg hb2_1]
    exact ⟨rfl, rfl⟩

def FX12_greater (m : AM) (a : Int) (b : Int) : Int :=
  if a ≤ b then
    b
  else
    a
set_option maxRecDepth 20000 in
set_option maxHeartbeats 4000000 in
theorem ct_X12_greater {G : QW} {m : AM} {a : Int} {b : Int} (ha3 : -9223372036854775808 ≤ a) (ha4 : a < 9223372036854775808) (hb3 : -9223372036854775808 ≤ b) (hb4 : b < 9223372036854775808) : qM G mX12_greater 0 0 0 [vL a, vL b] m (fun r m' => r = some (vL (FX12_greater m a b)) ∧ m' = m) := by
  refine qM.intro okX12_greater (Nat.le_of_ble_eq_true rfl) ?_
  refine j_lload_n rfl rfl ?_
  refine j_lload_n rfl rfl ?_
  refine j_lc_le (tgt := 10) rfl rfl (by decide) (by omega) (by omega) (by omega) (by omega) (fun hb2_1 => ?_) (fun hb2_1 => ?_)
  · skip
    refine j_lload_n rfl rfl ?_
    refine j_lret rfl rfl ?_ rfl (Nat.le_refl _)
    unfold FX12_greater
    rw [if_pos hb2_1]
    exact ⟨rfl, rfl⟩
  · skip
    refine j_lload_n rfl rfl ?_
    refine j_goto (tgt := 11) rfl (by decide) ?_
    refine j_lret rfl rfl ?_ rfl (Nat.le_refl _)
    unfold FX12_greater
    rw [if_neg hb2_1]
    exact ⟨rfl, rfl⟩

def FX12_layEnds (m : AM) (n : Int) (low : Int) (high : Int) : AM :=
  (sl (sl m 126 n.toNat low) 127 n.toNat high)
set_option maxRecDepth 20000 in
set_option maxHeartbeats 4000000 in
theorem ct_X12_layEnds {G : QW} {m : AM} (hS : St m) (hI : IM m) {n : Int} {low : Int} {high : Int} (hn1 : -2147483648 ≤ n) (hn2 : n < 2147483648) (hn0 : 0 ≤ n) (hn9 : n ≤ 169) (hlow3 : -9223372036854775808 ≤ low) (hlow4 : low < 9223372036854775808) (hhigh3 : -9223372036854775808 ≤ high) (hhigh4 : high < 9223372036854775808) : qM G mX12_layEnds 0 0 0 [vR 86, vI n, vL low, vL high] m (fun r m' => r = none ∧ m' = FX12_layEnds m n low high) := by
  refine qM.intro okX12_layEnds (Nat.le_of_ble_eq_true rfl) ?_
  refine j_aload_n rfl rfl ?_
  refine j_getR (q := 126) rfl f_X12_130 rfl (hS.lt (by decide)) (hS.k (by decide) (by decide)) (hS.r (by decide)) ?_
  refine j_iload_n rfl rfl ?_
  refine j_lload_n rfl rfl ?_
  refine j_last (n := 170) rfl (hS.lt (by decide)) (hS.k (by decide) (by decide)) (hS.n (by decide) (by decide)) (by omega) (by omega) (by first | decide | omega) ?_
  refine j_aload_n rfl rfl ?_
  refine j_getR (q := 127) rfl f_X12_133 rfl (hS.lt (by decide)) (hS.k (by decide) (by decide)) (hS.r (by decide)) ?_
  refine j_iload_n rfl rfl ?_
  refine j_lload rfl rfl ?_
  refine j_last (n := 170) rfl (hS.lt (by decide)) (hS.k (by decide) (by decide)) (hS.n (by decide) (by decide)) (by omega) (by omega) (by first | decide | omega) ?_
  refine j_vret rfl rfl ?_ rfl (Nat.le_refl _)
  unfold FX12_layEnds
  exact ⟨rfl, rfl⟩

theorem FX12_lesser_rng (m : AM) (a b : Int) : (FX12_lesser m a b = a ∨ FX12_lesser m a b = b) ∧ FX12_lesser m a b ≤ a ∧ FX12_lesser m a b ≤ b := by
  unfold FX12_lesser
  split <;> omega
theorem FX12_greater_rng (m : AM) (a b : Int) : (FX12_greater m a b = a ∨ FX12_greater m a b = b) ∧ a ≤ FX12_greater m a b ∧ b ≤ FX12_greater m a b := by
  unfold FX12_greater
  split <;> omega
/-! the ends of what a part gives -/
def lsE (a b : Int) : Int := if a < b then a else b
def grE (a b : Int) : Int := if a > b then a else b
def abE (a : Int) : Int := if a < 0 then -a else a
def ckE (l h : Int) : Int × Int × Int := (if (l > 1000000000 ∨ l < -1000000000) ∨ (h > 1000000000 ∨ h < -1000000000) then 0 else 1, l, h)
/-- two pairs of ends by an operation: 0 if it is over -/
def sJE (w : Nat) (a b c d : Int) : Int × Int × Int :=
  if w = 12 then ckE (a + c) (b + d)
  else if w = 13 then ckE (a - d) (b - c)
  else if w = 14 then ckE (lsE (lsE (a * c) (a * d)) (lsE (b * c) (b * d))) (grE (grE (a * c) (a * d)) (grE (b * c) (b * d)))
  else if w = 15 then (if c ≤ 0 ∧ d ≥ 0 then (0, 0, 0) else ckE (lsE (lsE (a.tdiv c) (a.tdiv d)) (lsE (b.tdiv c) (b.tdiv d))) (grE (grE (a.tdiv c) (a.tdiv d)) (grE (b.tdiv c) (b.tdiv d))))
  else if w = 16 then (if c ≤ 0 ∧ d ≥ 0 then (0, 0, 0) else ckE (-(grE (abE c) (abE d) - 1)) (grE (abE c) (abE d) - 1))
  else ckE 0 1
def sEE (code : Int → Nat × Int) (rd : Nat → Int → Int × Int) : Nat → Int → Int → (Nat → Int) → (Nat → Int) → Int × (Nat → Int) × (Nat → Int)
  | 0, _, _, lo, hi => (1, lo, hi)
  | x + 1, k, n, lo, hi =>
    if (code k).1 < 6 then sEE code rd x (k + 1) (n + 1) (sUp lo n (rd (code k).1 (code k).2).1) (sUp hi n (rd (code k).1 (code k).2).2)
    else if (code k).1 = 6 then sEE code rd x (k + 1) n (sUp lo (n - 1) (-hi (n - 1).toNat)) (sUp hi (n - 1) (-lo (n - 1).toNat))
    else if (sJE (code k).1 (lo (n - 2).toNat) (hi (n - 2).toNat) (lo (n - 1).toNat) (hi (n - 1).toNat)).1 = 0 then (0, lo, hi)
    else sEE code rd x (k + 1) (n - 1) (sUp lo (n - 2) (sJE (code k).1 (lo (n - 2).toNat) (hi (n - 2).toNat) (lo (n - 1).toNat) (hi (n - 1).toNat)).2.1) (sUp hi (n - 2) (sJE (code k).1 (lo (n - 2).toNat) (hi (n - 2).toNat) (lo (n - 1).toNat) (hi (n - 1).toNat)).2.2)
/-- the ends of a name at the reference -/
def rdE (m : AM) (k b : Int) (w : Nat) (v : Int) : Int × Int :=
  if w = 0 then (v, v) else if w = 1 then (-FX12_mostOf m (mi m 88 ((8 * b) + v).toNat) - 1, FX12_mostOf m (mi m 88 ((8 * b) + v).toNat)) else if w = 2 then (-32768, 32767)
  else if w = 3 then (mi m 123 ((3 * k) + v).toNat, mi m 124 ((3 * k) + v).toNat) else if w = 4 then (0, 199) else (0, 4)
theorem FX12_lesser_eq (m : AM) (a b : Int) : FX12_lesser m a b = lsE a b := by
  unfold FX12_lesser lsE
  by_cases h : a < b
  · have h2 : ¬ a ≥ b := by omega
    simp [h, h2]
  · have h2 : a ≥ b := by omega
    simp [h, h2]
theorem FX12_greater_eq (m : AM) (a b : Int) : FX12_greater m a b = grE a b := by
  unfold FX12_greater grE
  by_cases h : a > b
  · have h2 : ¬ a ≤ b := by omega
    simp [h, h2]
  · have h2 : a ≤ b := by omega
    simp [h, h2]

def FX12_leaf (m : AM) (k : Int) (b : Int) (what : Int) (v : Int) (n : Int) : AM :=
  if what ≠ 2 then
    if what = 1 then
      (sl (sl m 126 n.toNat v) 127 n.toNat v)
    else
      if what = 2 then
        (sl (sl m 126 n.toNat ((-0) - 1)) 127 n.toNat 0)
      else
        if what = 3 then
          (sl (sl m 126 n.toNat (-32768)) 127 n.toNat 32767)
        else
          if what = 4 then
            (sl (sl m 126 n.toNat (mi m 123 ((3 * k) + v).toNat)) 127 n.toNat (mi m 124 ((3 * k) + v).toNat))
          else
            if what = 5 then
              (sl (sl m 126 n.toNat 0) 127 n.toNat 199)
            else
              (sl (sl m 126 n.toNat 0) 127 n.toNat 4)
  else
    if what = 1 then
      (sl (sl m 126 n.toNat v) 127 n.toNat v)
    else
      if what = 2 then
        (sl (sl m 126 n.toNat ((-(FX12_mostOf m (mi m 88 ((8 * b) + v).toNat))) - 1)) 127 n.toNat (FX12_mostOf m (mi m 88 ((8 * b) + v).toNat)))
      else
        if what = 3 then
          (sl (sl m 126 n.toNat (-32768)) 127 n.toNat 32767)
        else
          if what = 4 then
            (sl (sl m 126 n.toNat (mi m 123 ((3 * k) + v).toNat)) 127 n.toNat (mi m 124 ((3 * k) + v).toNat))
          else
            if what = 5 then
              (sl (sl m 126 n.toNat 0) 127 n.toNat 199)
            else
              (sl (sl m 126 n.toNat 0) 127 n.toNat 4)
set_option maxRecDepth 20000 in
set_option maxHeartbeats 4000000 in
theorem ct_X12_leaf {G : QW} {m : AM} (hS : St m) (hI : IM m) {k : Int} {b : Int} {what : Int} {v : Int} {n : Int} (hk1 : -2147483648 ≤ k) (hk2 : k < 2147483648) (hb1 : -2147483648 ≤ b) (hb2 : b < 2147483648) (hwhat1 : -2147483648 ≤ what) (hwhat2 : what < 2147483648) (hv1 : -2147483648 ≤ v) (hv2 : v < 2147483648) (hn1 : -2147483648 ≤ n) (hn2 : n < 2147483648) (hm0 : 0 ≤ k) (hm1 : k ≤ 1) (hb0 : 0 ≤ b) (hb5 : b ≤ 5) (hw0 : 1 ≤ what) (hw6 : what ≤ 6) (hv0 : 0 ≤ v) (hv9 : v ≤ 99999) (h2 : what = 2 → v ≤ 7 ∧ 2 ≤ mi m 88 ((8 * b) + v).toNat ∧ mi m 88 ((8 * b) + v).toNat ≤ 20) (h4 : what = 4 → v ≤ 2) (hn0 : 0 ≤ n) (hn9 : n ≤ 169) : qM G mX12_leaf 1 0 0 [vR 86, vI k, vI b, vI what, vI v, vI n] m (fun r m' => r = none ∧ m' = FX12_leaf m k b what v n) := by
  refine qM.intro okX12_leaf (Nat.le_of_ble_eq_true rfl) ?_
  refine j_iload_n rfl rfl ?_
  refine j_iconst rfl ?_
  refine j_icmp_ne (tgt := 23) rfl (by decide) (by omega) (by omega) (by omega) (by omega) (fun hb2_1 => ?_) (fun hb2_1 => ?_)
  · skip
    refine j_iconst rfl ?_
    refine j_istore rfl (by decide) ?_
    refine j_iload_n rfl rfl ?_
    by_cases hs27_1_1 : what = 1
    · skip
      refine j_tableIn (tgt := 60) rfl (by omega) (by omega) (by omega) (by omega) (by rw [hs27_1_1]; rfl) (by decide) ?_
      refine j_aload_n rfl rfl ?_
      refine j_iload rfl rfl ?_
      refine j_iload rfl rfl ?_
      refine j_i2l rfl (by omega) (by omega) ?_
      refine j_iload rfl rfl ?_
      refine j_i2l rfl (by omega) (by omega) ?_
      refine j_callV (ci := 12) rfl okX12_layEnds c_X12_411 (ct_X12_layEnds hS hI (by omega) (by omega) (by omega) (by omega) (by omega) (by omega) (by omega) (by omega)) rfl rfl (hS.lt (by decide)) (hS.k (by decide) (by decide)) (by decide) rfl (Nat.le_of_ble_eq_true rfl) (by decide) (by decide) ?_
      rintro vq mq ⟨e1, e2⟩
      rw [e1, e2]
      clear e1 e2
      simp only [Option.toList_some, Option.toList_none, List.cons_append, List.nil_append]
      refine j_goto (tgt := 164) rfl (by decide) ?_
      refine j_vret rfl rfl ?_ rfl (Nat.le_refl _)
      unfold FX12_leaf
      rw [if_pos hb2_1, if_pos hs27_1_1]
      exact ⟨rfl, rfl⟩
    · skip
      by_cases hs27_1_2 : what = 2
      · skip
        refine j_tableIn (tgt := 75) rfl (by omega) (by omega) (by omega) (by omega) (by rw [hs27_1_2]; rfl) (by decide) ?_
        refine j_aload_n rfl rfl ?_
        refine j_iload rfl rfl ?_
        refine j_iload rfl rfl ?_
        refine j_ineg rfl ?_
        refine j_iconst rfl ?_
        refine j_isub rfl ?_
        refine j_i2l rfl (by omega) (by omega) ?_
        refine j_iload rfl rfl ?_
        refine j_i2l rfl (by omega) (by omega) ?_
        refine j_callV (ci := 12) rfl okX12_layEnds c_X12_411 (ct_X12_layEnds hS hI (by omega) (by omega) (by omega) (by omega) (by omega) (by omega) (by omega) (by omega)) rfl rfl (hS.lt (by decide)) (hS.k (by decide) (by decide)) (by decide) rfl (Nat.le_of_ble_eq_true rfl) (by decide) (by decide) ?_
        rintro vq mq ⟨e1, e2⟩
        rw [e1, e2]
        clear e1 e2
        simp only [Option.toList_some, Option.toList_none, List.cons_append, List.nil_append]
        refine j_goto (tgt := 164) rfl (by decide) ?_
        refine j_vret rfl rfl ?_ rfl (Nat.le_refl _)
        unfold FX12_leaf
        rw [if_pos hb2_1, if_neg hs27_1_1, if_pos hs27_1_2]
        exact ⟨rfl, rfl⟩
      · skip
        by_cases hs27_1_3 : what = 3
        · skip
          refine j_tableIn (tgt := 93) rfl (by omega) (by omega) (by omega) (by omega) (by rw [hs27_1_3]; rfl) (by decide) ?_
          refine j_aload_n rfl rfl ?_
          refine j_iload rfl rfl ?_
          refine j_ldc2 (v := -32768) rfl k_X12_415 ?_
          refine j_ldc2 (v := 32767) rfl k_X12_417 ?_
          refine j_callV (ci := 12) rfl okX12_layEnds c_X12_411 (ct_X12_layEnds hS hI (by omega) (by omega) (by omega) (by omega) (by omega) (by omega) (by omega) (by omega)) rfl rfl (hS.lt (by decide)) (hS.k (by decide) (by decide)) (by decide) rfl (Nat.le_of_ble_eq_true rfl) (by decide) (by decide) ?_
          rintro vq mq ⟨e1, e2⟩
          rw [e1, e2]
          clear e1 e2
          simp only [Option.toList_some, Option.toList_none, List.cons_append, List.nil_append]
          refine j_goto (tgt := 164) rfl (by decide) ?_
          refine j_vret rfl rfl ?_ rfl (Nat.le_refl _)
          unfold FX12_leaf
          rw [if_pos hb2_1, if_neg hs27_1_1, if_neg hs27_1_2, if_pos hs27_1_3]
          exact ⟨rfl, rfl⟩
        · skip
          by_cases hs27_1_4 : what = 4
          · skip
            refine j_tableIn (tgt := 108) rfl (by omega) (by omega) (by omega) (by omega) (by rw [hs27_1_4]; rfl) (by decide) ?_
            refine j_aload_n rfl rfl ?_
            refine j_iload rfl rfl ?_
            refine j_aload_n rfl rfl ?_
            refine j_getR (q := 123) rfl f_X12_121 rfl (hS.lt (by decide)) (hS.k (by decide) (by decide)) (hS.r (by decide)) ?_
            refine j_iconst rfl ?_
            refine j_iload_n rfl rfl ?_
            refine j_imul rfl ?_
            refine j_iload rfl rfl ?_
            refine j_iadd rfl ?_
            refine j_iald (n := 6) rfl (hS.lt (by decide)) (hS.k (by decide) (by decide)) (hS.n (by decide) (by decide)) (by omega) (by omega) (by decide) ?_
            have u121_1 := hI.a 123 (-99999) 99999 (by decide) ((3 * k) + v).toNat
            refine j_i2l rfl (by omega) (by omega) ?_
            refine j_aload_n rfl rfl ?_
            refine j_getR (q := 124) rfl f_X12_124 rfl (hS.lt (by decide)) (hS.k (by decide) (by decide)) (hS.r (by decide)) ?_
            refine j_iconst rfl ?_
            refine j_iload_n rfl rfl ?_
            refine j_imul rfl ?_
            refine j_iload rfl rfl ?_
            refine j_iadd rfl ?_
            refine j_iald (n := 6) rfl (hS.lt (by decide)) (hS.k (by decide) (by decide)) (hS.n (by decide) (by decide)) (by omega) (by omega) (by decide) ?_
            have u133_1 := hI.a 124 (-99999) 99999 (by decide) ((3 * k) + v).toNat
            refine j_i2l rfl (by omega) (by omega) ?_
            refine j_callV (ci := 12) rfl okX12_layEnds c_X12_411 (ct_X12_layEnds hS hI (by omega) (by omega) (by omega) (by omega) (by omega) (by omega) (by omega) (by omega)) rfl rfl (hS.lt (by decide)) (hS.k (by decide) (by decide)) (by decide) rfl (Nat.le_of_ble_eq_true rfl) (by decide) (by decide) ?_
            rintro vq mq ⟨e1, e2⟩
            rw [e1, e2]
            clear e1 e2
            simp only [Option.toList_some, Option.toList_none, List.cons_append, List.nil_append]
            refine j_goto (tgt := 164) rfl (by decide) ?_
            refine j_vret rfl rfl ?_ rfl (Nat.le_refl _)
            unfold FX12_leaf
            rw [if_pos hb2_1, if_neg hs27_1_1, if_neg hs27_1_2, if_neg hs27_1_3, if_pos hs27_1_4]
            exact ⟨rfl, rfl⟩
          · skip
            by_cases hs27_1_5 : what = 5
            · skip
              refine j_tableIn (tgt := 141) rfl (by omega) (by omega) (by omega) (by omega) (by rw [hs27_1_5]; rfl) (by decide) ?_
              refine j_aload_n rfl rfl ?_
              refine j_iload rfl rfl ?_
              refine j_lconst (v := 0) rfl (by decide) ?_
              refine j_ldc2 (v := 199) rfl k_X12_419 ?_
              refine j_callV (ci := 12) rfl okX12_layEnds c_X12_411 (ct_X12_layEnds hS hI (by omega) (by omega) (by omega) (by omega) (by omega) (by omega) (by omega) (by omega)) rfl rfl (hS.lt (by decide)) (hS.k (by decide) (by decide)) (by decide) rfl (Nat.le_of_ble_eq_true rfl) (by decide) (by decide) ?_
              rintro vq mq ⟨e1, e2⟩
              rw [e1, e2]
              clear e1 e2
              simp only [Option.toList_some, Option.toList_none, List.cons_append, List.nil_append]
              refine j_goto (tgt := 164) rfl (by decide) ?_
              refine j_vret rfl rfl ?_ rfl (Nat.le_refl _)
              unfold FX12_leaf
              rw [if_pos hb2_1, if_neg hs27_1_1, if_neg hs27_1_2, if_neg hs27_1_3, if_neg hs27_1_4, if_pos hs27_1_5]
              exact ⟨rfl, rfl⟩
            · skip
              refine j_tableOut (tgt := 154) rfl (by omega) (by omega) (by omega) (by decide) ?_
              refine j_aload_n rfl rfl ?_
              refine j_iload rfl rfl ?_
              refine j_lconst (v := 0) rfl (by decide) ?_
              refine j_ldc2 (v := 4) rfl k_X12_284 ?_
              refine j_callV (ci := 12) rfl okX12_layEnds c_X12_411 (ct_X12_layEnds hS hI (by omega) (by omega) (by omega) (by omega) (by omega) (by omega) (by omega) (by omega)) rfl rfl (hS.lt (by decide)) (hS.k (by decide) (by decide)) (by decide) rfl (Nat.le_of_ble_eq_true rfl) (by decide) (by decide) ?_
              rintro vq mq ⟨e1, e2⟩
              rw [e1, e2]
              clear e1 e2
              simp only [Option.toList_some, Option.toList_none, List.cons_append, List.nil_append]
              refine j_vret rfl rfl ?_ rfl (Nat.le_refl _)
              unfold FX12_leaf
              rw [if_pos hb2_1, if_neg hs27_1_1, if_neg hs27_1_2, if_neg hs27_1_3, if_neg hs27_1_4, if_neg hs27_1_5]
              exact ⟨rfl, rfl⟩
  · skip
    refine j_aload_n rfl rfl ?_
    refine j_getR (q := 88) rfl f_X12_13 rfl (hS.lt (by decide)) (hS.k (by decide) (by decide)) (hS.r (by decide)) ?_
    refine j_bipush rfl (by decide) ?_
    refine j_iload_n rfl rfl ?_
    refine j_imul rfl ?_
    refine j_iload rfl rfl ?_
    refine j_iadd rfl ?_
    refine j_iald (n := 48) rfl (hS.lt (by decide)) (hS.k (by decide) (by decide)) (hS.n (by decide) (by decide)) (by omega) (by omega) (by decide) ?_
    have u16_1 := hI.a 88 (0) 20 (by decide) ((8 * b) + v).toNat
    refine j_callS (As := [_]) rfl okX12_mostOf c_X12_339 (ct_X12_mostOf (by omega) (by omega)) rfl rfl (Nat.le_of_ble_eq_true rfl) (by decide) (by decide) ?_
    rintro vq mq ⟨e1, e2⟩
    rw [e1, e2]
    clear e1 e2
    simp only [Option.toList_some, Option.toList_none, List.cons_append, List.nil_append]
    have mq146 := most_rng m (b := (mi m 88 ((8 * b) + v).toNat)) (by omega) (by omega)
    refine j_goto (tgt := 24) rfl (by decide) ?_
    refine j_istore rfl (by decide) ?_
    refine j_iload_n rfl rfl ?_
    by_cases hs27_2_1 : what = 1
    · skip
      refine j_tableIn (tgt := 60) rfl (by omega) (by omega) (by omega) (by omega) (by rw [hs27_2_1]; rfl) (by decide) ?_
      refine j_aload_n rfl rfl ?_
      refine j_iload rfl rfl ?_
      refine j_iload rfl rfl ?_
      refine j_i2l rfl (by omega) (by omega) ?_
      refine j_iload rfl rfl ?_
      refine j_i2l rfl (by omega) (by omega) ?_
      refine j_callV (ci := 12) rfl okX12_layEnds c_X12_411 (ct_X12_layEnds hS hI (by omega) (by omega) (by omega) (by omega) (by omega) (by omega) (by omega) (by omega)) rfl rfl (hS.lt (by decide)) (hS.k (by decide) (by decide)) (by decide) rfl (Nat.le_of_ble_eq_true rfl) (by decide) (by decide) ?_
      rintro vq mq ⟨e1, e2⟩
      rw [e1, e2]
      clear e1 e2
      simp only [Option.toList_some, Option.toList_none, List.cons_append, List.nil_append]
      refine j_goto (tgt := 164) rfl (by decide) ?_
      refine j_vret rfl rfl ?_ rfl (Nat.le_refl _)
      unfold FX12_leaf
      rw [if_neg (not_not_intro hb2_1), if_pos hs27_2_1]
      exact ⟨rfl, rfl⟩
    · skip
      by_cases hs27_2_2 : what = 2
      · skip
        refine j_tableIn (tgt := 75) rfl (by omega) (by omega) (by omega) (by omega) (by rw [hs27_2_2]; rfl) (by decide) ?_
        refine j_aload_n rfl rfl ?_
        refine j_iload rfl rfl ?_
        refine j_iload rfl rfl ?_
        refine j_ineg rfl ?_
        refine j_iconst rfl ?_
        refine j_isub rfl ?_
        refine j_i2l rfl (by omega) (by omega) ?_
        refine j_iload rfl rfl ?_
        refine j_i2l rfl (by omega) (by omega) ?_
        refine j_callV (ci := 12) rfl okX12_layEnds c_X12_411 (ct_X12_layEnds hS hI (by omega) (by omega) (by omega) (by omega) (by omega) (by omega) (by omega) (by omega)) rfl rfl (hS.lt (by decide)) (hS.k (by decide) (by decide)) (by decide) rfl (Nat.le_of_ble_eq_true rfl) (by decide) (by decide) ?_
        rintro vq mq ⟨e1, e2⟩
        rw [e1, e2]
        clear e1 e2
        simp only [Option.toList_some, Option.toList_none, List.cons_append, List.nil_append]
        refine j_goto (tgt := 164) rfl (by decide) ?_
        refine j_vret rfl rfl ?_ rfl (Nat.le_refl _)
        unfold FX12_leaf
        rw [if_neg (not_not_intro hb2_1), if_neg hs27_2_1, if_pos hs27_2_2]
        exact ⟨rfl, rfl⟩
      · skip
        by_cases hs27_2_3 : what = 3
        · skip
          refine j_tableIn (tgt := 93) rfl (by omega) (by omega) (by omega) (by omega) (by rw [hs27_2_3]; rfl) (by decide) ?_
          refine j_aload_n rfl rfl ?_
          refine j_iload rfl rfl ?_
          refine j_ldc2 (v := -32768) rfl k_X12_415 ?_
          refine j_ldc2 (v := 32767) rfl k_X12_417 ?_
          refine j_callV (ci := 12) rfl okX12_layEnds c_X12_411 (ct_X12_layEnds hS hI (by omega) (by omega) (by omega) (by omega) (by omega) (by omega) (by omega) (by omega)) rfl rfl (hS.lt (by decide)) (hS.k (by decide) (by decide)) (by decide) rfl (Nat.le_of_ble_eq_true rfl) (by decide) (by decide) ?_
          rintro vq mq ⟨e1, e2⟩
          rw [e1, e2]
          clear e1 e2
          simp only [Option.toList_some, Option.toList_none, List.cons_append, List.nil_append]
          refine j_goto (tgt := 164) rfl (by decide) ?_
          refine j_vret rfl rfl ?_ rfl (Nat.le_refl _)
          unfold FX12_leaf
          rw [if_neg (not_not_intro hb2_1), if_neg hs27_2_1, if_neg hs27_2_2, if_pos hs27_2_3]
          exact ⟨rfl, rfl⟩
        · skip
          by_cases hs27_2_4 : what = 4
          · skip
            refine j_tableIn (tgt := 108) rfl (by omega) (by omega) (by omega) (by omega) (by rw [hs27_2_4]; rfl) (by decide) ?_
            refine j_aload_n rfl rfl ?_
            refine j_iload rfl rfl ?_
            refine j_aload_n rfl rfl ?_
            refine j_getR (q := 123) rfl f_X12_121 rfl (hS.lt (by decide)) (hS.k (by decide) (by decide)) (hS.r (by decide)) ?_
            refine j_iconst rfl ?_
            refine j_iload_n rfl rfl ?_
            refine j_imul rfl ?_
            refine j_iload rfl rfl ?_
            refine j_iadd rfl ?_
            refine j_iald (n := 6) rfl (hS.lt (by decide)) (hS.k (by decide) (by decide)) (hS.n (by decide) (by decide)) (by omega) (by omega) (by decide) ?_
            have u121_2 := hI.a 123 (-99999) 99999 (by decide) ((3 * k) + v).toNat
            refine j_i2l rfl (by omega) (by omega) ?_
            refine j_aload_n rfl rfl ?_
            refine j_getR (q := 124) rfl f_X12_124 rfl (hS.lt (by decide)) (hS.k (by decide) (by decide)) (hS.r (by decide)) ?_
            refine j_iconst rfl ?_
            refine j_iload_n rfl rfl ?_
            refine j_imul rfl ?_
            refine j_iload rfl rfl ?_
            refine j_iadd rfl ?_
            refine j_iald (n := 6) rfl (hS.lt (by decide)) (hS.k (by decide) (by decide)) (hS.n (by decide) (by decide)) (by omega) (by omega) (by decide) ?_
            have u133_2 := hI.a 124 (-99999) 99999 (by decide) ((3 * k) + v).toNat
            refine j_i2l rfl (by omega) (by omega) ?_
            refine j_callV (ci := 12) rfl okX12_layEnds c_X12_411 (ct_X12_layEnds hS hI (by omega) (by omega) (by omega) (by omega) (by omega) (by omega) (by omega) (by omega)) rfl rfl (hS.lt (by decide)) (hS.k (by decide) (by decide)) (by decide) rfl (Nat.le_of_ble_eq_true rfl) (by decide) (by decide) ?_
            rintro vq mq ⟨e1, e2⟩
            rw [e1, e2]
            clear e1 e2
            simp only [Option.toList_some, Option.toList_none, List.cons_append, List.nil_append]
            refine j_goto (tgt := 164) rfl (by decide) ?_
            refine j_vret rfl rfl ?_ rfl (Nat.le_refl _)
            unfold FX12_leaf
            rw [if_neg (not_not_intro hb2_1), if_neg hs27_2_1, if_neg hs27_2_2, if_neg hs27_2_3, if_pos hs27_2_4]
            exact ⟨rfl, rfl⟩
          · skip
            by_cases hs27_2_5 : what = 5
            · skip
              refine j_tableIn (tgt := 141) rfl (by omega) (by omega) (by omega) (by omega) (by rw [hs27_2_5]; rfl) (by decide) ?_
              refine j_aload_n rfl rfl ?_
              refine j_iload rfl rfl ?_
              refine j_lconst (v := 0) rfl (by decide) ?_
              refine j_ldc2 (v := 199) rfl k_X12_419 ?_
              refine j_callV (ci := 12) rfl okX12_layEnds c_X12_411 (ct_X12_layEnds hS hI (by omega) (by omega) (by omega) (by omega) (by omega) (by omega) (by omega) (by omega)) rfl rfl (hS.lt (by decide)) (hS.k (by decide) (by decide)) (by decide) rfl (Nat.le_of_ble_eq_true rfl) (by decide) (by decide) ?_
              rintro vq mq ⟨e1, e2⟩
              rw [e1, e2]
              clear e1 e2
              simp only [Option.toList_some, Option.toList_none, List.cons_append, List.nil_append]
              refine j_goto (tgt := 164) rfl (by decide) ?_
              refine j_vret rfl rfl ?_ rfl (Nat.le_refl _)
              unfold FX12_leaf
              rw [if_neg (not_not_intro hb2_1), if_neg hs27_2_1, if_neg hs27_2_2, if_neg hs27_2_3, if_neg hs27_2_4, if_pos hs27_2_5]
              exact ⟨rfl, rfl⟩
            · skip
              refine j_tableOut (tgt := 154) rfl (by omega) (by omega) (by omega) (by decide) ?_
              refine j_aload_n rfl rfl ?_
              refine j_iload rfl rfl ?_
              refine j_lconst (v := 0) rfl (by decide) ?_
              refine j_ldc2 (v := 4) rfl k_X12_284 ?_
              refine j_callV (ci := 12) rfl okX12_layEnds c_X12_411 (ct_X12_layEnds hS hI (by omega) (by omega) (by omega) (by omega) (by omega) (by omega) (by omega) (by omega)) rfl rfl (hS.lt (by decide)) (hS.k (by decide) (by decide)) (by decide) rfl (Nat.le_of_ble_eq_true rfl) (by decide) (by decide) ?_
              rintro vq mq ⟨e1, e2⟩
              rw [e1, e2]
              clear e1 e2
              simp only [Option.toList_some, Option.toList_none, List.cons_append, List.nil_append]
              refine j_vret rfl rfl ?_ rfl (Nat.le_refl _)
              unfold FX12_leaf
              rw [if_neg (not_not_intro hb2_1), if_neg hs27_2_1, if_neg hs27_2_2, if_neg hs27_2_3, if_neg hs27_2_4, if_neg hs27_2_5]
              exact ⟨rfl, rfl⟩

theorem FX12_leaf_sp {m : AM} {k b what v n : Int} (hw0 : 1 ≤ what) (hw6 : what ≤ 6) : FX12_leaf m k b what v n = sl (sl m 126 n.toNat (rdE m k b (opM what) v).1) 127 n.toNat (rdE m k b (opM what) v).2 := by
  have hc : what = 1 ∨ what = 2 ∨ what = 3 ∨ what = 4 ∨ what = 5 ∨ what = 6 := by omega
  rcases hc with rfl | rfl | rfl | rfl | rfl | rfl <;> rfl

set_option maxRecDepth 20000 in
theorem lp_ofTwo_355 {G : QW} {m : AM} {n l h : Int} {Rp : Option Vl → AM → Prop} (hS : St m) (hI : IM m) (hn0 : 1 ≤ n) (hn9 : n ≤ 169) (hl : -9223372036854775808 ≤ l ∧ l < 9223372036854775808) (hh : -9223372036854775808 ≤ h ∧ h < 9223372036854775808) (hfin : Rp (some (vI (ckE l h).1)) (sl (sl m 126 (n - 1).toNat l) 127 (n - 1).toNat h)) : qJ G mX12_ofTwo { frames := 1, cells := 0, slots := 0, locals := 60 * 1 } (qF G Rp 0 0) 355 [(0, vR 86), (2, vI n)] [] (sl (sl m 126 (n - 1).toNat l) 127 (n - 1).toNat h) 0 0 := by
  have e1 : ml (sl (sl m 126 (n - 1).toNat l) 127 (n - 1).toNat h) 126 (n - 1).toNat = l := by rw [ml_sl_ne _ _ (fun q => absurd q.1 (by decide)), ml_sl_same _ _ _ (by omega) (by omega)]
  have e2 : ml (sl (sl m 126 (n - 1).toNat l) 127 (n - 1).toNat h) 127 (n - 1).toNat = h := by rw [ml_sl_same _ _ _ (by omega) (by omega)]
  refine j_aload_n rfl rfl ?_
  refine j_getR (q := 126) rfl f_X12_130 rfl (hS.lt (by decide)) (hS.k (by decide) (by decide)) (hS.r (by decide)) ?_
  refine j_iload_n rfl rfl ?_
  refine j_iconst rfl ?_
  refine j_isub rfl ?_
  refine j_lald (n := 170) rfl (hS.lt (by decide)) (hS.k (by decide) (by decide)) (hS.n (by decide) (by decide)) (by omega) (by omega) (by decide) ?_
  have u362_1 := ml_rng (sl (sl m 126 (n - 1).toNat l) 127 (n - 1).toNat h) 126 (n - 1).toNat
  refine j_callS (As := [_]) rfl okX12_isMuch c_X12_332 (ct_X12_isMuch (by omega) (by omega)) rfl rfl (Nat.le_of_ble_eq_true rfl) (by decide) (by decide) ?_
  rintro vq mq ⟨e1, e2⟩
  rw [e1, e2]
  clear e1 e2
  simp only [Option.toList_some, Option.toList_none, List.cons_append, List.nil_append]
  refine j_bif_ne (tgt := 387) rfl (by decide) (fun hb366_1 => ?_) (fun hb366_1 => ?_)
  · skip
    refine j_iconst rfl ?_
    refine j_zret rfl rfl (by decide) ?_ rfl (Nat.le_refl _)
    have e : (ckE l h).1 = 0 := by unfold ckE; first | exact if_pos (by omega) | exact if_neg (by omega)
    have hf2 := hfin
    rw [e] at hf2
    exact hf2
  · skip
    refine j_aload_n rfl rfl ?_
    refine j_getR (q := 127) rfl f_X12_133 rfl (hS.lt (by decide)) (hS.k (by decide) (by decide)) (hS.r (by decide)) ?_
    refine j_iload_n rfl rfl ?_
    refine j_iconst rfl ?_
    refine j_isub rfl ?_
    refine j_lald (n := 170) rfl (hS.lt (by decide)) (hS.k (by decide) (by decide)) (hS.n (by decide) (by decide)) (by omega) (by omega) (by decide) ?_
    have u376_1 := ml_rng (sl (sl m 126 (n - 1).toNat l) 127 (n - 1).toNat h) 127 (n - 1).toNat
    refine j_callS (As := [_]) rfl okX12_isMuch c_X12_332 (ct_X12_isMuch (by omega) (by omega)) rfl rfl (Nat.le_of_ble_eq_true rfl) (by decide) (by decide) ?_
    rintro vq mq ⟨e1, e2⟩
    rw [e1, e2]
    clear e1 e2
    simp only [Option.toList_some, Option.toList_none, List.cons_append, List.nil_append]
    refine j_bif_ne (tgt := 387) rfl (by decide) (fun hb380_1 => ?_) (fun hb380_1 => ?_)
    · skip
      refine j_iconst rfl ?_
      refine j_zret rfl rfl (by decide) ?_ rfl (Nat.le_refl _)
      have e : (ckE l h).1 = 0 := by unfold ckE; first | exact if_pos (by omega) | exact if_neg (by omega)
      have hf2 := hfin
      rw [e] at hf2
      exact hf2
    · skip
      refine j_iconst rfl ?_
      refine j_goto (tgt := 388) rfl (by decide) ?_
      refine j_zret rfl rfl (by decide) ?_ rfl (Nat.le_refl _)
      have e : (ckE l h).1 = 1 := by unfold ckE; first | exact if_pos (by omega) | exact if_neg (by omega)
      have hf2 := hfin
      rw [e] at hf2
      exact hf2

set_option maxRecDepth 20000 in
set_option maxHeartbeats 8000000 in
theorem ct_X12_ofTwo {G : QW} {m : AM} {what n : Int} (hS : St m) (hI : IM m) (hw1 : 7 ≤ opM what) (hw2 : opM what ≤ 16) (hwr : 0 ≤ what ∧ what ≤ 124) (hn0 : 1 ≤ n) (hn9 : n ≤ 169) (ha : -1000000000 ≤ (ml m 126 (n - 1).toNat) ∧ (ml m 126 (n - 1).toNat) ≤ 1000000000) (hb : -1000000000 ≤ (ml m 127 (n - 1).toNat) ∧ (ml m 127 (n - 1).toNat) ≤ 1000000000) (hc : -1000000000 ≤ (ml m 126 n.toNat) ∧ (ml m 126 n.toNat) ≤ 1000000000) (hd : -1000000000 ≤ (ml m 127 n.toNat) ∧ (ml m 127 n.toNat) ≤ 1000000000) (hab : (ml m 126 (n - 1).toNat) ≤ (ml m 127 (n - 1).toNat)) (hcd : (ml m 126 n.toNat) ≤ (ml m 127 n.toNat)) : qM G mX12_ofTwo 1 0 0 [vR 86, vI what, vI n] m (fun r m' => r = some (vI (sJE (opM what) (ml m 126 (n - 1).toNat) (ml m 127 (n - 1).toNat) (ml m 126 n.toNat) (ml m 127 n.toNat)).1) ∧ SameP m m' ∧ ((sJE (opM what) (ml m 126 (n - 1).toNat) (ml m 127 (n - 1).toNat) (ml m 126 n.toNat) (ml m 127 n.toNat)).1 ≠ 0 → m' = sl (sl m 126 (n - 1).toNat (sJE (opM what) (ml m 126 (n - 1).toNat) (ml m 127 (n - 1).toNat) (ml m 126 n.toNat) (ml m 127 n.toNat)).2.1) 127 (n - 1).toNat (sJE (opM what) (ml m 126 (n - 1).toNat) (ml m 127 (n - 1).toNat) (ml m 126 n.toNat) (ml m 127 n.toNat)).2.2)) := by
  refine qM.intro okX12_ofTwo (Nat.le_of_ble_eq_true rfl) ?_
  obtain ⟨a0, a1⟩ := ha
  obtain ⟨b0, b1⟩ := hb
  obtain ⟨c0, c1⟩ := hc
  obtain ⟨d0, d1⟩ := hd
  have p1 := abs_mul a0 a1 c0 c1
  have p2 := abs_mul a0 a1 d0 d1
  have p3 := abs_mul b0 b1 c0 c1
  have p4 := abs_mul b0 b1 d0 d1
  have t1 := abs_tdiv (y := (ml m 126 n.toNat)) a0 a1
  have t2 := abs_tdiv (y := (ml m 127 n.toNat)) a0 a1
  have t3 := abs_tdiv (y := (ml m 126 n.toNat)) b0 b1
  have t4 := abs_tdiv (y := (ml m 127 n.toNat)) b0 b1
  refine j_aload_n rfl rfl ?_
  refine j_getR (q := 126) rfl f_X12_130 rfl (hS.lt (by decide)) (hS.k (by decide) (by decide)) (hS.r (by decide)) ?_
  refine j_iload_n rfl rfl ?_
  refine j_iconst rfl ?_
  refine j_isub rfl ?_
  refine j_lald (n := 170) rfl (hS.lt (by decide)) (hS.k (by decide) (by decide)) (hS.n (by decide) (by decide)) (by omega) (by omega) (by decide) ?_
  have u7_1 := ml_rng m 126 (n - 1).toNat
  refine j_lstore_n rfl (by decide) ?_
  refine j_aload_n rfl rfl ?_
  refine j_getR (q := 127) rfl f_X12_133 rfl (hS.lt (by decide)) (hS.k (by decide) (by decide)) (hS.r (by decide)) ?_
  refine j_iload_n rfl rfl ?_
  refine j_iconst rfl ?_
  refine j_isub rfl ?_
  refine j_lald (n := 170) rfl (hS.lt (by decide)) (hS.k (by decide) (by decide)) (hS.n (by decide) (by decide)) (by omega) (by omega) (by decide) ?_
  have u16_1 := ml_rng m 127 (n - 1).toNat
  refine j_lstore rfl (by decide) ?_
  refine j_aload_n rfl rfl ?_
  refine j_getR (q := 126) rfl f_X12_130 rfl (hS.lt (by decide)) (hS.k (by decide) (by decide)) (hS.r (by decide)) ?_
  refine j_iload_n rfl rfl ?_
  refine j_lald (n := 170) rfl (hS.lt (by decide)) (hS.k (by decide) (by decide)) (hS.n (by decide) (by decide)) (by omega) (by omega) (by decide) ?_
  have u24_1 := ml_rng m 126 n.toNat
  refine j_lstore rfl (by decide) ?_
  refine j_aload_n rfl rfl ?_
  refine j_getR (q := 127) rfl f_X12_133 rfl (hS.lt (by decide)) (hS.k (by decide) (by decide)) (hS.r (by decide)) ?_
  refine j_iload_n rfl rfl ?_
  refine j_lald (n := 170) rfl (hS.lt (by decide)) (hS.k (by decide) (by decide)) (hS.n (by decide) (by decide)) (by omega) (by omega) (by decide) ?_
  have u32_1 := ml_rng m 127 n.toNat
  refine j_lstore rfl (by decide) ?_
  refine j_iload_n rfl rfl ?_
  by_cases hs36_1_37 : what = 37
  · skip
    refine j_tableIn (tgt := 278) rfl (by omega) (by omega) (by omega) (by omega) (by rw [hs36_1_37]; rfl) (by decide) ?_
    refine j_lload rfl rfl ?_
    refine j_lconst (v := 0) rfl (by decide) ?_
    refine j_lc_gt (tgt := 294) rfl rfl (by decide) (by omega) (by omega) (by omega) (by omega) (fun hb281_1 => ?_) (fun hb281_1 => ?_)
    · skip
      refine j_lload rfl rfl ?_
      refine j_lconst (v := 0) rfl (by decide) ?_
      refine j_lc_ge (tgt := 307) rfl rfl (by decide) (by omega) (by omega) (by omega) (by omega) (fun hb297_1 => ?_) (fun hb297_1 => ?_)
      · skip
        refine j_lload rfl rfl ?_
        refine j_lload rfl rfl ?_
        refine j_lconst (v := 0) rfl (by decide) ?_
        refine j_lc_ge (tgt := 322) rfl rfl (by decide) (by omega) (by omega) (by omega) (by omega) (fun hb312_1 => ?_) (fun hb312_1 => ?_)
        · skip
          refine j_lload rfl rfl ?_
          refine j_callS (As := [_, _]) rfl okX12_greater c_X12_424 (ct_X12_greater (by omega) (by omega) (by omega) (by omega)) rfl rfl (Nat.le_of_ble_eq_true rfl) (by decide) (by decide) ?_
          rintro vq mq ⟨e1, e2⟩
          rw [e1, e2]
          clear e1 e2
          simp only [Option.toList_some, Option.toList_none, List.cons_append, List.nil_append]
          have lq46 := FX12_greater_rng m (ml m 126 n.toNat) (ml m 127 n.toNat)
          refine j_lconst (v := 1) rfl (by decide) ?_
          refine j_lsub rfl ?_
          refine j_lstore rfl (by decide) ?_
          refine j_aload_n rfl rfl ?_
          refine j_iload_n rfl rfl ?_
          refine j_iconst rfl ?_
          refine j_isub rfl ?_
          refine j_lload rfl rfl ?_
          refine j_lneg rfl ?_
          refine j_lload rfl rfl ?_
          refine j_callV (ci := 12) rfl okX12_layEnds c_X12_411 (ct_X12_layEnds hS hI (by omega) (by omega) (by omega) (by omega) (by omega) (by omega) (by omega) (by omega)) rfl rfl (hS.lt (by decide)) (hS.k (by decide) (by decide)) (by decide) rfl (Nat.le_of_ble_eq_true rfl) (by decide) (by decide) ?_
          rintro vq mq ⟨e1, e2⟩
          rw [e1, e2]
          clear e1 e2
          simp only [Option.toList_some, Option.toList_none, List.cons_append, List.nil_append]
          refine j_goto (tgt := 355) rfl (by decide) ?_
          refine j_loc (ls' := [(0, vR 86), (2, vI n)]) rfl ?_
          refine lp_ofTwo_355 hS hI hn0 hn9 (by omega) (by omega) ?_
          have hj : (sJE (opM what) (ml m 126 (n - 1).toNat) (ml m 127 (n - 1).toNat) (ml m 126 n.toNat) (ml m 127 n.toNat)) = ckE (-((FX12_greater m (ml m 126 n.toNat) (ml m 127 n.toNat)) - 1)) ((FX12_greater m (ml m 126 n.toNat) (ml m 127 n.toNat)) - 1) := by
            unfold sJE; rcases opM_cases hw2 with ⟨q, e⟩ | ⟨q, e⟩ | ⟨q, e⟩ | ⟨q, e⟩ | ⟨q, e⟩ | ⟨q, e⟩ | ⟨q, e⟩ | ⟨q, e⟩ | ⟨q, e⟩ | ⟨q, e⟩ | ⟨q, e⟩ | ⟨q, e⟩ | ⟨q, e⟩ | ⟨q, e⟩ | ⟨q, e⟩ | ⟨q, e⟩ | ⟨q, e⟩ <;> first | (exfalso; omega) | skip
            all_goals rw [e]
            all_goals simp only [FX12_lesser_eq, FX12_greater_eq, abE]
            all_goals first | rfl | (rw [if_neg (by decide), if_neg (by decide), if_neg (by decide), if_pos (by decide), if_neg (by omega)]; done) | (rw [if_neg (by decide), if_neg (by decide), if_neg (by decide), if_neg (by decide), if_pos (by decide), if_neg (by omega)]; congr 1 <;> (repeat' split) <;> omega) | (repeat' split) <;> (first | rfl | omega)
          rw [hj]
          exact ⟨rfl, ((SameP.rf m).scrap (Or.inr (Or.inl rfl)) _ _).scrap (Or.inr (Or.inr rfl)) _ _, fun _ => rfl⟩
        · skip
          refine j_lload rfl rfl ?_
          refine j_lneg rfl ?_
          refine j_goto (tgt := 324) rfl (by decide) ?_
          refine j_callS (As := [_, _]) rfl okX12_greater c_X12_424 (ct_X12_greater (by omega) (by omega) (by omega) (by omega)) rfl rfl (Nat.le_of_ble_eq_true rfl) (by decide) (by decide) ?_
          rintro vq mq ⟨e1, e2⟩
          rw [e1, e2]
          clear e1 e2
          simp only [Option.toList_some, Option.toList_none, List.cons_append, List.nil_append]
          have lq81 := FX12_greater_rng m (ml m 126 n.toNat) (-(ml m 127 n.toNat))
          refine j_lconst (v := 1) rfl (by decide) ?_
          refine j_lsub rfl ?_
          refine j_lstore rfl (by decide) ?_
          refine j_aload_n rfl rfl ?_
          refine j_iload_n rfl rfl ?_
          refine j_iconst rfl ?_
          refine j_isub rfl ?_
          refine j_lload rfl rfl ?_
          refine j_lneg rfl ?_
          refine j_lload rfl rfl ?_
          refine j_callV (ci := 12) rfl okX12_layEnds c_X12_411 (ct_X12_layEnds hS hI (by omega) (by omega) (by omega) (by omega) (by omega) (by omega) (by omega) (by omega)) rfl rfl (hS.lt (by decide)) (hS.k (by decide) (by decide)) (by decide) rfl (Nat.le_of_ble_eq_true rfl) (by decide) (by decide) ?_
          rintro vq mq ⟨e1, e2⟩
          rw [e1, e2]
          clear e1 e2
          simp only [Option.toList_some, Option.toList_none, List.cons_append, List.nil_append]
          refine j_goto (tgt := 355) rfl (by decide) ?_
          refine j_loc (ls' := [(0, vR 86), (2, vI n)]) rfl ?_
          refine lp_ofTwo_355 hS hI hn0 hn9 (by omega) (by omega) ?_
          have hj : (sJE (opM what) (ml m 126 (n - 1).toNat) (ml m 127 (n - 1).toNat) (ml m 126 n.toNat) (ml m 127 n.toNat)) = ckE (-((FX12_greater m (ml m 126 n.toNat) (-(ml m 127 n.toNat))) - 1)) ((FX12_greater m (ml m 126 n.toNat) (-(ml m 127 n.toNat))) - 1) := by
            unfold sJE; rcases opM_cases hw2 with ⟨q, e⟩ | ⟨q, e⟩ | ⟨q, e⟩ | ⟨q, e⟩ | ⟨q, e⟩ | ⟨q, e⟩ | ⟨q, e⟩ | ⟨q, e⟩ | ⟨q, e⟩ | ⟨q, e⟩ | ⟨q, e⟩ | ⟨q, e⟩ | ⟨q, e⟩ | ⟨q, e⟩ | ⟨q, e⟩ | ⟨q, e⟩ | ⟨q, e⟩ <;> first | (exfalso; omega) | skip
            all_goals rw [e]
            all_goals simp only [FX12_lesser_eq, FX12_greater_eq, abE]
            all_goals first | rfl | (rw [if_neg (by decide), if_neg (by decide), if_neg (by decide), if_pos (by decide), if_neg (by omega)]; done) | (rw [if_neg (by decide), if_neg (by decide), if_neg (by decide), if_neg (by decide), if_pos (by decide), if_neg (by omega)]; congr 1 <;> (repeat' split) <;> omega) | (repeat' split) <;> (first | rfl | omega)
          rw [hj]
          exact ⟨rfl, ((SameP.rf m).scrap (Or.inr (Or.inl rfl)) _ _).scrap (Or.inr (Or.inr rfl)) _ _, fun _ => rfl⟩
      · skip
        refine j_lload rfl rfl ?_
        refine j_lneg rfl ?_
        refine j_goto (tgt := 309) rfl (by decide) ?_
        refine j_lload rfl rfl ?_
        refine j_lconst (v := 0) rfl (by decide) ?_
        refine j_lc_ge (tgt := 322) rfl rfl (by decide) (by omega) (by omega) (by omega) (by omega) (fun hb312_2 => ?_) (fun hb312_2 => ?_)
        · skip
          refine j_lload rfl rfl ?_
          refine j_callS (As := [_, _]) rfl okX12_greater c_X12_424 (ct_X12_greater (by omega) (by omega) (by omega) (by omega)) rfl rfl (Nat.le_of_ble_eq_true rfl) (by decide) (by decide) ?_
          rintro vq mq ⟨e1, e2⟩
          rw [e1, e2]
          clear e1 e2
          simp only [Option.toList_some, Option.toList_none, List.cons_append, List.nil_append]
          have lq121 := FX12_greater_rng m (-(ml m 126 n.toNat)) (ml m 127 n.toNat)
          refine j_lconst (v := 1) rfl (by decide) ?_
          refine j_lsub rfl ?_
          refine j_lstore rfl (by decide) ?_
          refine j_aload_n rfl rfl ?_
          refine j_iload_n rfl rfl ?_
          refine j_iconst rfl ?_
          refine j_isub rfl ?_
          refine j_lload rfl rfl ?_
          refine j_lneg rfl ?_
          refine j_lload rfl rfl ?_
          refine j_callV (ci := 12) rfl okX12_layEnds c_X12_411 (ct_X12_layEnds hS hI (by omega) (by omega) (by omega) (by omega) (by omega) (by omega) (by omega) (by omega)) rfl rfl (hS.lt (by decide)) (hS.k (by decide) (by decide)) (by decide) rfl (Nat.le_of_ble_eq_true rfl) (by decide) (by decide) ?_
          rintro vq mq ⟨e1, e2⟩
          rw [e1, e2]
          clear e1 e2
          simp only [Option.toList_some, Option.toList_none, List.cons_append, List.nil_append]
          refine j_goto (tgt := 355) rfl (by decide) ?_
          refine j_loc (ls' := [(0, vR 86), (2, vI n)]) rfl ?_
          refine lp_ofTwo_355 hS hI hn0 hn9 (by omega) (by omega) ?_
          have hj : (sJE (opM what) (ml m 126 (n - 1).toNat) (ml m 127 (n - 1).toNat) (ml m 126 n.toNat) (ml m 127 n.toNat)) = ckE (-((FX12_greater m (-(ml m 126 n.toNat)) (ml m 127 n.toNat)) - 1)) ((FX12_greater m (-(ml m 126 n.toNat)) (ml m 127 n.toNat)) - 1) := by
            unfold sJE; rcases opM_cases hw2 with ⟨q, e⟩ | ⟨q, e⟩ | ⟨q, e⟩ | ⟨q, e⟩ | ⟨q, e⟩ | ⟨q, e⟩ | ⟨q, e⟩ | ⟨q, e⟩ | ⟨q, e⟩ | ⟨q, e⟩ | ⟨q, e⟩ | ⟨q, e⟩ | ⟨q, e⟩ | ⟨q, e⟩ | ⟨q, e⟩ | ⟨q, e⟩ | ⟨q, e⟩ <;> first | (exfalso; omega) | skip
            all_goals rw [e]
            all_goals simp only [FX12_lesser_eq, FX12_greater_eq, abE]
            all_goals first | rfl | (rw [if_neg (by decide), if_neg (by decide), if_neg (by decide), if_pos (by decide), if_neg (by omega)]; done) | (rw [if_neg (by decide), if_neg (by decide), if_neg (by decide), if_neg (by decide), if_pos (by decide), if_neg (by omega)]; congr 1 <;> (repeat' split) <;> omega) | (repeat' split) <;> (first | rfl | omega)
          rw [hj]
          exact ⟨rfl, ((SameP.rf m).scrap (Or.inr (Or.inl rfl)) _ _).scrap (Or.inr (Or.inr rfl)) _ _, fun _ => rfl⟩
        · skip
          refine j_lload rfl rfl ?_
          refine j_lneg rfl ?_
          refine j_goto (tgt := 324) rfl (by decide) ?_
          refine j_callS (As := [_, _]) rfl okX12_greater c_X12_424 (ct_X12_greater (by omega) (by omega) (by omega) (by omega)) rfl rfl (Nat.le_of_ble_eq_true rfl) (by decide) (by decide) ?_
          rintro vq mq ⟨e1, e2⟩
          rw [e1, e2]
          clear e1 e2
          simp only [Option.toList_some, Option.toList_none, List.cons_append, List.nil_append]
          have lq156 := FX12_greater_rng m (-(ml m 126 n.toNat)) (-(ml m 127 n.toNat))
          refine j_lconst (v := 1) rfl (by decide) ?_
          refine j_lsub rfl ?_
          refine j_lstore rfl (by decide) ?_
          refine j_aload_n rfl rfl ?_
          refine j_iload_n rfl rfl ?_
          refine j_iconst rfl ?_
          refine j_isub rfl ?_
          refine j_lload rfl rfl ?_
          refine j_lneg rfl ?_
          refine j_lload rfl rfl ?_
          refine j_callV (ci := 12) rfl okX12_layEnds c_X12_411 (ct_X12_layEnds hS hI (by omega) (by omega) (by omega) (by omega) (by omega) (by omega) (by omega) (by omega)) rfl rfl (hS.lt (by decide)) (hS.k (by decide) (by decide)) (by decide) rfl (Nat.le_of_ble_eq_true rfl) (by decide) (by decide) ?_
          rintro vq mq ⟨e1, e2⟩
          rw [e1, e2]
          clear e1 e2
          simp only [Option.toList_some, Option.toList_none, List.cons_append, List.nil_append]
          refine j_goto (tgt := 355) rfl (by decide) ?_
          refine j_loc (ls' := [(0, vR 86), (2, vI n)]) rfl ?_
          refine lp_ofTwo_355 hS hI hn0 hn9 (by omega) (by omega) ?_
          have hj : (sJE (opM what) (ml m 126 (n - 1).toNat) (ml m 127 (n - 1).toNat) (ml m 126 n.toNat) (ml m 127 n.toNat)) = ckE (-((FX12_greater m (-(ml m 126 n.toNat)) (-(ml m 127 n.toNat))) - 1)) ((FX12_greater m (-(ml m 126 n.toNat)) (-(ml m 127 n.toNat))) - 1) := by
            unfold sJE; rcases opM_cases hw2 with ⟨q, e⟩ | ⟨q, e⟩ | ⟨q, e⟩ | ⟨q, e⟩ | ⟨q, e⟩ | ⟨q, e⟩ | ⟨q, e⟩ | ⟨q, e⟩ | ⟨q, e⟩ | ⟨q, e⟩ | ⟨q, e⟩ | ⟨q, e⟩ | ⟨q, e⟩ | ⟨q, e⟩ | ⟨q, e⟩ | ⟨q, e⟩ | ⟨q, e⟩ <;> first | (exfalso; omega) | skip
            all_goals rw [e]
            all_goals simp only [FX12_lesser_eq, FX12_greater_eq, abE]
            all_goals first | rfl | (rw [if_neg (by decide), if_neg (by decide), if_neg (by decide), if_pos (by decide), if_neg (by omega)]; done) | (rw [if_neg (by decide), if_neg (by decide), if_neg (by decide), if_neg (by decide), if_pos (by decide), if_neg (by omega)]; congr 1 <;> (repeat' split) <;> omega) | (repeat' split) <;> (first | rfl | omega)
          rw [hj]
          exact ⟨rfl, ((SameP.rf m).scrap (Or.inr (Or.inl rfl)) _ _).scrap (Or.inr (Or.inr rfl)) _ _, fun _ => rfl⟩
    · skip
      refine j_lload rfl rfl ?_
      refine j_lconst (v := 0) rfl (by decide) ?_
      refine j_lc_lt (tgt := 294) rfl rfl (by decide) (by omega) (by omega) (by omega) (by omega) (fun hb288_1 => ?_) (fun hb288_1 => ?_)
      · skip
        refine j_lload rfl rfl ?_
        refine j_lconst (v := 0) rfl (by decide) ?_
        refine j_lc_ge (tgt := 307) rfl rfl (by decide) (by omega) (by omega) (by omega) (by omega) (fun hb297_2 => ?_) (fun hb297_2 => ?_)
        · skip
          refine j_lload rfl rfl ?_
          refine j_lload rfl rfl ?_
          refine j_lconst (v := 0) rfl (by decide) ?_
          refine j_lc_ge (tgt := 322) rfl rfl (by decide) (by omega) (by omega) (by omega) (by omega) (fun hb312_3 => ?_) (fun hb312_3 => ?_)
          · skip
            refine j_lload rfl rfl ?_
            refine j_callS (As := [_, _]) rfl okX12_greater c_X12_424 (ct_X12_greater (by omega) (by omega) (by omega) (by omega)) rfl rfl (Nat.le_of_ble_eq_true rfl) (by decide) (by decide) ?_
            rintro vq mq ⟨e1, e2⟩
            rw [e1, e2]
            clear e1 e2
            simp only [Option.toList_some, Option.toList_none, List.cons_append, List.nil_append]
            have lq202 := FX12_greater_rng m (ml m 126 n.toNat) (ml m 127 n.toNat)
            refine j_lconst (v := 1) rfl (by decide) ?_
            refine j_lsub rfl ?_
            refine j_lstore rfl (by decide) ?_
            refine j_aload_n rfl rfl ?_
            refine j_iload_n rfl rfl ?_
            refine j_iconst rfl ?_
            refine j_isub rfl ?_
            refine j_lload rfl rfl ?_
            refine j_lneg rfl ?_
            refine j_lload rfl rfl ?_
            refine j_callV (ci := 12) rfl okX12_layEnds c_X12_411 (ct_X12_layEnds hS hI (by omega) (by omega) (by omega) (by omega) (by omega) (by omega) (by omega) (by omega)) rfl rfl (hS.lt (by decide)) (hS.k (by decide) (by decide)) (by decide) rfl (Nat.le_of_ble_eq_true rfl) (by decide) (by decide) ?_
            rintro vq mq ⟨e1, e2⟩
            rw [e1, e2]
            clear e1 e2
            simp only [Option.toList_some, Option.toList_none, List.cons_append, List.nil_append]
            refine j_goto (tgt := 355) rfl (by decide) ?_
            refine j_loc (ls' := [(0, vR 86), (2, vI n)]) rfl ?_
            refine lp_ofTwo_355 hS hI hn0 hn9 (by omega) (by omega) ?_
            have hj : (sJE (opM what) (ml m 126 (n - 1).toNat) (ml m 127 (n - 1).toNat) (ml m 126 n.toNat) (ml m 127 n.toNat)) = ckE (-((FX12_greater m (ml m 126 n.toNat) (ml m 127 n.toNat)) - 1)) ((FX12_greater m (ml m 126 n.toNat) (ml m 127 n.toNat)) - 1) := by
              unfold sJE; rcases opM_cases hw2 with ⟨q, e⟩ | ⟨q, e⟩ | ⟨q, e⟩ | ⟨q, e⟩ | ⟨q, e⟩ | ⟨q, e⟩ | ⟨q, e⟩ | ⟨q, e⟩ | ⟨q, e⟩ | ⟨q, e⟩ | ⟨q, e⟩ | ⟨q, e⟩ | ⟨q, e⟩ | ⟨q, e⟩ | ⟨q, e⟩ | ⟨q, e⟩ | ⟨q, e⟩ <;> first | (exfalso; omega) | skip
              all_goals rw [e]
              all_goals simp only [FX12_lesser_eq, FX12_greater_eq, abE]
              all_goals first | rfl | (rw [if_neg (by decide), if_neg (by decide), if_neg (by decide), if_pos (by decide), if_neg (by omega)]; done) | (rw [if_neg (by decide), if_neg (by decide), if_neg (by decide), if_neg (by decide), if_pos (by decide), if_neg (by omega)]; congr 1 <;> (repeat' split) <;> omega) | (repeat' split) <;> (first | rfl | omega)
            rw [hj]
            exact ⟨rfl, ((SameP.rf m).scrap (Or.inr (Or.inl rfl)) _ _).scrap (Or.inr (Or.inr rfl)) _ _, fun _ => rfl⟩
          · skip
            refine j_lload rfl rfl ?_
            refine j_lneg rfl ?_
            refine j_goto (tgt := 324) rfl (by decide) ?_
            refine j_callS (As := [_, _]) rfl okX12_greater c_X12_424 (ct_X12_greater (by omega) (by omega) (by omega) (by omega)) rfl rfl (Nat.le_of_ble_eq_true rfl) (by decide) (by decide) ?_
            rintro vq mq ⟨e1, e2⟩
            rw [e1, e2]
            clear e1 e2
            simp only [Option.toList_some, Option.toList_none, List.cons_append, List.nil_append]
            have lq237 := FX12_greater_rng m (ml m 126 n.toNat) (-(ml m 127 n.toNat))
            refine j_lconst (v := 1) rfl (by decide) ?_
            refine j_lsub rfl ?_
            refine j_lstore rfl (by decide) ?_
            refine j_aload_n rfl rfl ?_
            refine j_iload_n rfl rfl ?_
            refine j_iconst rfl ?_
            refine j_isub rfl ?_
            refine j_lload rfl rfl ?_
            refine j_lneg rfl ?_
            refine j_lload rfl rfl ?_
            refine j_callV (ci := 12) rfl okX12_layEnds c_X12_411 (ct_X12_layEnds hS hI (by omega) (by omega) (by omega) (by omega) (by omega) (by omega) (by omega) (by omega)) rfl rfl (hS.lt (by decide)) (hS.k (by decide) (by decide)) (by decide) rfl (Nat.le_of_ble_eq_true rfl) (by decide) (by decide) ?_
            rintro vq mq ⟨e1, e2⟩
            rw [e1, e2]
            clear e1 e2
            simp only [Option.toList_some, Option.toList_none, List.cons_append, List.nil_append]
            refine j_goto (tgt := 355) rfl (by decide) ?_
            refine j_loc (ls' := [(0, vR 86), (2, vI n)]) rfl ?_
            refine lp_ofTwo_355 hS hI hn0 hn9 (by omega) (by omega) ?_
            have hj : (sJE (opM what) (ml m 126 (n - 1).toNat) (ml m 127 (n - 1).toNat) (ml m 126 n.toNat) (ml m 127 n.toNat)) = ckE (-((FX12_greater m (ml m 126 n.toNat) (-(ml m 127 n.toNat))) - 1)) ((FX12_greater m (ml m 126 n.toNat) (-(ml m 127 n.toNat))) - 1) := by
              unfold sJE; rcases opM_cases hw2 with ⟨q, e⟩ | ⟨q, e⟩ | ⟨q, e⟩ | ⟨q, e⟩ | ⟨q, e⟩ | ⟨q, e⟩ | ⟨q, e⟩ | ⟨q, e⟩ | ⟨q, e⟩ | ⟨q, e⟩ | ⟨q, e⟩ | ⟨q, e⟩ | ⟨q, e⟩ | ⟨q, e⟩ | ⟨q, e⟩ | ⟨q, e⟩ | ⟨q, e⟩ <;> first | (exfalso; omega) | skip
              all_goals rw [e]
              all_goals simp only [FX12_lesser_eq, FX12_greater_eq, abE]
              all_goals first | rfl | (rw [if_neg (by decide), if_neg (by decide), if_neg (by decide), if_pos (by decide), if_neg (by omega)]; done) | (rw [if_neg (by decide), if_neg (by decide), if_neg (by decide), if_neg (by decide), if_pos (by decide), if_neg (by omega)]; congr 1 <;> (repeat' split) <;> omega) | (repeat' split) <;> (first | rfl | omega)
            rw [hj]
            exact ⟨rfl, ((SameP.rf m).scrap (Or.inr (Or.inl rfl)) _ _).scrap (Or.inr (Or.inr rfl)) _ _, fun _ => rfl⟩
        · skip
          refine j_lload rfl rfl ?_
          refine j_lneg rfl ?_
          refine j_goto (tgt := 309) rfl (by decide) ?_
          refine j_lload rfl rfl ?_
          refine j_lconst (v := 0) rfl (by decide) ?_
          refine j_lc_ge (tgt := 322) rfl rfl (by decide) (by omega) (by omega) (by omega) (by omega) (fun hb312_4 => ?_) (fun hb312_4 => ?_)
          · skip
            refine j_lload rfl rfl ?_
            refine j_callS (As := [_, _]) rfl okX12_greater c_X12_424 (ct_X12_greater (by omega) (by omega) (by omega) (by omega)) rfl rfl (Nat.le_of_ble_eq_true rfl) (by decide) (by decide) ?_
            rintro vq mq ⟨e1, e2⟩
            rw [e1, e2]
            clear e1 e2
            simp only [Option.toList_some, Option.toList_none, List.cons_append, List.nil_append]
            have lq277 := FX12_greater_rng m (-(ml m 126 n.toNat)) (ml m 127 n.toNat)
            refine j_lconst (v := 1) rfl (by decide) ?_
            refine j_lsub rfl ?_
            refine j_lstore rfl (by decide) ?_
            refine j_aload_n rfl rfl ?_
            refine j_iload_n rfl rfl ?_
            refine j_iconst rfl ?_
            refine j_isub rfl ?_
            refine j_lload rfl rfl ?_
            refine j_lneg rfl ?_
            refine j_lload rfl rfl ?_
            refine j_callV (ci := 12) rfl okX12_layEnds c_X12_411 (ct_X12_layEnds hS hI (by omega) (by omega) (by omega) (by omega) (by omega) (by omega) (by omega) (by omega)) rfl rfl (hS.lt (by decide)) (hS.k (by decide) (by decide)) (by decide) rfl (Nat.le_of_ble_eq_true rfl) (by decide) (by decide) ?_
            rintro vq mq ⟨e1, e2⟩
            rw [e1, e2]
            clear e1 e2
            simp only [Option.toList_some, Option.toList_none, List.cons_append, List.nil_append]
            refine j_goto (tgt := 355) rfl (by decide) ?_
            refine j_loc (ls' := [(0, vR 86), (2, vI n)]) rfl ?_
            refine lp_ofTwo_355 hS hI hn0 hn9 (by omega) (by omega) ?_
            have hj : (sJE (opM what) (ml m 126 (n - 1).toNat) (ml m 127 (n - 1).toNat) (ml m 126 n.toNat) (ml m 127 n.toNat)) = ckE (-((FX12_greater m (-(ml m 126 n.toNat)) (ml m 127 n.toNat)) - 1)) ((FX12_greater m (-(ml m 126 n.toNat)) (ml m 127 n.toNat)) - 1) := by
              unfold sJE; rcases opM_cases hw2 with ⟨q, e⟩ | ⟨q, e⟩ | ⟨q, e⟩ | ⟨q, e⟩ | ⟨q, e⟩ | ⟨q, e⟩ | ⟨q, e⟩ | ⟨q, e⟩ | ⟨q, e⟩ | ⟨q, e⟩ | ⟨q, e⟩ | ⟨q, e⟩ | ⟨q, e⟩ | ⟨q, e⟩ | ⟨q, e⟩ | ⟨q, e⟩ | ⟨q, e⟩ <;> first | (exfalso; omega) | skip
              all_goals rw [e]
              all_goals simp only [FX12_lesser_eq, FX12_greater_eq, abE]
              all_goals first | rfl | (rw [if_neg (by decide), if_neg (by decide), if_neg (by decide), if_pos (by decide), if_neg (by omega)]; done) | (rw [if_neg (by decide), if_neg (by decide), if_neg (by decide), if_neg (by decide), if_pos (by decide), if_neg (by omega)]; congr 1 <;> (repeat' split) <;> omega) | (repeat' split) <;> (first | rfl | omega)
            rw [hj]
            exact ⟨rfl, ((SameP.rf m).scrap (Or.inr (Or.inl rfl)) _ _).scrap (Or.inr (Or.inr rfl)) _ _, fun _ => rfl⟩
          · skip
            refine j_lload rfl rfl ?_
            refine j_lneg rfl ?_
            refine j_goto (tgt := 324) rfl (by decide) ?_
            refine j_callS (As := [_, _]) rfl okX12_greater c_X12_424 (ct_X12_greater (by omega) (by omega) (by omega) (by omega)) rfl rfl (Nat.le_of_ble_eq_true rfl) (by decide) (by decide) ?_
            rintro vq mq ⟨e1, e2⟩
            rw [e1, e2]
            clear e1 e2
            simp only [Option.toList_some, Option.toList_none, List.cons_append, List.nil_append]
            have lq312 := FX12_greater_rng m (-(ml m 126 n.toNat)) (-(ml m 127 n.toNat))
            refine j_lconst (v := 1) rfl (by decide) ?_
            refine j_lsub rfl ?_
            refine j_lstore rfl (by decide) ?_
            refine j_aload_n rfl rfl ?_
            refine j_iload_n rfl rfl ?_
            refine j_iconst rfl ?_
            refine j_isub rfl ?_
            refine j_lload rfl rfl ?_
            refine j_lneg rfl ?_
            refine j_lload rfl rfl ?_
            refine j_callV (ci := 12) rfl okX12_layEnds c_X12_411 (ct_X12_layEnds hS hI (by omega) (by omega) (by omega) (by omega) (by omega) (by omega) (by omega) (by omega)) rfl rfl (hS.lt (by decide)) (hS.k (by decide) (by decide)) (by decide) rfl (Nat.le_of_ble_eq_true rfl) (by decide) (by decide) ?_
            rintro vq mq ⟨e1, e2⟩
            rw [e1, e2]
            clear e1 e2
            simp only [Option.toList_some, Option.toList_none, List.cons_append, List.nil_append]
            refine j_goto (tgt := 355) rfl (by decide) ?_
            refine j_loc (ls' := [(0, vR 86), (2, vI n)]) rfl ?_
            refine lp_ofTwo_355 hS hI hn0 hn9 (by omega) (by omega) ?_
            have hj : (sJE (opM what) (ml m 126 (n - 1).toNat) (ml m 127 (n - 1).toNat) (ml m 126 n.toNat) (ml m 127 n.toNat)) = ckE (-((FX12_greater m (-(ml m 126 n.toNat)) (-(ml m 127 n.toNat))) - 1)) ((FX12_greater m (-(ml m 126 n.toNat)) (-(ml m 127 n.toNat))) - 1) := by
              unfold sJE; rcases opM_cases hw2 with ⟨q, e⟩ | ⟨q, e⟩ | ⟨q, e⟩ | ⟨q, e⟩ | ⟨q, e⟩ | ⟨q, e⟩ | ⟨q, e⟩ | ⟨q, e⟩ | ⟨q, e⟩ | ⟨q, e⟩ | ⟨q, e⟩ | ⟨q, e⟩ | ⟨q, e⟩ | ⟨q, e⟩ | ⟨q, e⟩ | ⟨q, e⟩ | ⟨q, e⟩ <;> first | (exfalso; omega) | skip
              all_goals rw [e]
              all_goals simp only [FX12_lesser_eq, FX12_greater_eq, abE]
              all_goals first | rfl | (rw [if_neg (by decide), if_neg (by decide), if_neg (by decide), if_pos (by decide), if_neg (by omega)]; done) | (rw [if_neg (by decide), if_neg (by decide), if_neg (by decide), if_neg (by decide), if_pos (by decide), if_neg (by omega)]; congr 1 <;> (repeat' split) <;> omega) | (repeat' split) <;> (first | rfl | omega)
            rw [hj]
            exact ⟨rfl, ((SameP.rf m).scrap (Or.inr (Or.inl rfl)) _ _).scrap (Or.inr (Or.inr rfl)) _ _, fun _ => rfl⟩
      · skip
        refine j_iconst rfl ?_
        refine j_zret rfl rfl (by decide) ?_ rfl (Nat.le_refl _)
        have hj : (sJE (opM what) (ml m 126 (n - 1).toNat) (ml m 127 (n - 1).toNat) (ml m 126 n.toNat) (ml m 127 n.toNat)) = (0, 0, 0) := by
          unfold sJE
          rcases opM_cases hw2 with ⟨q, e⟩ | ⟨q, e⟩ | ⟨q, e⟩ | ⟨q, e⟩ | ⟨q, e⟩ | ⟨q, e⟩ | ⟨q, e⟩ | ⟨q, e⟩ | ⟨q, e⟩ | ⟨q, e⟩ | ⟨q, e⟩ | ⟨q, e⟩ | ⟨q, e⟩ | ⟨q, e⟩ | ⟨q, e⟩ | ⟨q, e⟩ | ⟨q, e⟩ <;> first | (exfalso; omega) | skip
          all_goals rw [e]
          all_goals first | (rw [if_neg (by decide), if_neg (by decide), if_neg (by decide), if_pos (by decide), if_pos (by omega)]; done) | (rw [if_neg (by decide), if_neg (by decide), if_neg (by decide), if_neg (by decide), if_pos (by decide), if_pos (by omega)]; done)
        rw [hj]
        exact ⟨rfl, SameP.rf m, fun q => absurd rfl q⟩
  · skip
    by_cases hs36_1_42 : what = 42
    · skip
      refine j_tableIn (tgt := 134) rfl (by omega) (by omega) (by omega) (by omega) (by rw [hs36_1_42]; rfl) (by decide) ?_
      refine j_aload_n rfl rfl ?_
      refine j_iload_n rfl rfl ?_
      refine j_iconst rfl ?_
      refine j_isub rfl ?_
      refine j_lload_n rfl rfl ?_
      refine j_lload rfl rfl ?_
      refine j_lmul rfl ?_
      refine j_lload_n rfl rfl ?_
      refine j_lload rfl rfl ?_
      refine j_lmul rfl ?_
      refine j_callS (As := [_, _]) rfl okX12_lesser c_X12_421 (ct_X12_lesser (by omega) (by omega) (by omega) (by omega)) rfl rfl (Nat.le_of_ble_eq_true rfl) (by decide) (by decide) ?_
      rintro vq mq ⟨e1, e2⟩
      rw [e1, e2]
      clear e1 e2
      simp only [Option.toList_some, Option.toList_none, List.cons_append, List.nil_append]
      have lq367 := FX12_lesser_rng m ((ml m 126 (n - 1).toNat) * (ml m 126 n.toNat)) ((ml m 126 (n - 1).toNat) * (ml m 127 n.toNat))
      refine j_lload rfl rfl ?_
      refine j_lload rfl rfl ?_
      refine j_lmul rfl ?_
      refine j_lload rfl rfl ?_
      refine j_lload rfl rfl ?_
      refine j_lmul rfl ?_
      refine j_callS (As := [_, _]) rfl okX12_lesser c_X12_421 (ct_X12_lesser (by omega) (by omega) (by omega) (by omega)) rfl rfl (Nat.le_of_ble_eq_true rfl) (by decide) (by decide) ?_
      rintro vq mq ⟨e1, e2⟩
      rw [e1, e2]
      clear e1 e2
      simp only [Option.toList_some, Option.toList_none, List.cons_append, List.nil_append]
      have lq379 := FX12_lesser_rng m ((ml m 127 (n - 1).toNat) * (ml m 126 n.toNat)) ((ml m 127 (n - 1).toNat) * (ml m 127 n.toNat))
      refine j_callS (As := [_, _]) rfl okX12_lesser c_X12_421 (ct_X12_lesser (by omega) (by omega) (by omega) (by omega)) rfl rfl (Nat.le_of_ble_eq_true rfl) (by decide) (by decide) ?_
      rintro vq mq ⟨e1, e2⟩
      rw [e1, e2]
      clear e1 e2
      simp only [Option.toList_some, Option.toList_none, List.cons_append, List.nil_append]
      have lq385 := FX12_lesser_rng m (FX12_lesser m ((ml m 126 (n - 1).toNat) * (ml m 126 n.toNat)) ((ml m 126 (n - 1).toNat) * (ml m 127 n.toNat))) (FX12_lesser m ((ml m 127 (n - 1).toNat) * (ml m 126 n.toNat)) ((ml m 127 (n - 1).toNat) * (ml m 127 n.toNat)))
      refine j_lload_n rfl rfl ?_
      refine j_lload rfl rfl ?_
      refine j_lmul rfl ?_
      refine j_lload_n rfl rfl ?_
      refine j_lload rfl rfl ?_
      refine j_lmul rfl ?_
      refine j_callS (As := [_, _]) rfl okX12_greater c_X12_424 (ct_X12_greater (by omega) (by omega) (by omega) (by omega)) rfl rfl (Nat.le_of_ble_eq_true rfl) (by decide) (by decide) ?_
      rintro vq mq ⟨e1, e2⟩
      rw [e1, e2]
      clear e1 e2
      simp only [Option.toList_some, Option.toList_none, List.cons_append, List.nil_append]
      have lq397 := FX12_greater_rng m ((ml m 126 (n - 1).toNat) * (ml m 126 n.toNat)) ((ml m 126 (n - 1).toNat) * (ml m 127 n.toNat))
      refine j_lload rfl rfl ?_
      refine j_lload rfl rfl ?_
      refine j_lmul rfl ?_
      refine j_lload rfl rfl ?_
      refine j_lload rfl rfl ?_
      refine j_lmul rfl ?_
      refine j_callS (As := [_, _]) rfl okX12_greater c_X12_424 (ct_X12_greater (by omega) (by omega) (by omega) (by omega)) rfl rfl (Nat.le_of_ble_eq_true rfl) (by decide) (by decide) ?_
      rintro vq mq ⟨e1, e2⟩
      rw [e1, e2]
      clear e1 e2
      simp only [Option.toList_some, Option.toList_none, List.cons_append, List.nil_append]
      have lq409 := FX12_greater_rng m ((ml m 127 (n - 1).toNat) * (ml m 126 n.toNat)) ((ml m 127 (n - 1).toNat) * (ml m 127 n.toNat))
      refine j_callS (As := [_, _]) rfl okX12_greater c_X12_424 (ct_X12_greater (by omega) (by omega) (by omega) (by omega)) rfl rfl (Nat.le_of_ble_eq_true rfl) (by decide) (by decide) ?_
      rintro vq mq ⟨e1, e2⟩
      rw [e1, e2]
      clear e1 e2
      simp only [Option.toList_some, Option.toList_none, List.cons_append, List.nil_append]
      have lq415 := FX12_greater_rng m (FX12_greater m ((ml m 126 (n - 1).toNat) * (ml m 126 n.toNat)) ((ml m 126 (n - 1).toNat) * (ml m 127 n.toNat))) (FX12_greater m ((ml m 127 (n - 1).toNat) * (ml m 126 n.toNat)) ((ml m 127 (n - 1).toNat) * (ml m 127 n.toNat)))
      refine j_callV (ci := 12) rfl okX12_layEnds c_X12_411 (ct_X12_layEnds hS hI (by omega) (by omega) (by omega) (by omega) (by omega) (by omega) (by omega) (by omega)) rfl rfl (hS.lt (by decide)) (hS.k (by decide) (by decide)) (by decide) rfl (Nat.le_of_ble_eq_true rfl) (by decide) (by decide) ?_
      rintro vq mq ⟨e1, e2⟩
      rw [e1, e2]
      clear e1 e2
      simp only [Option.toList_some, Option.toList_none, List.cons_append, List.nil_append]
      refine j_goto (tgt := 355) rfl (by decide) ?_
      refine j_loc (ls' := [(0, vR 86), (2, vI n)]) rfl ?_
      refine lp_ofTwo_355 hS hI hn0 hn9 (by omega) (by omega) ?_
      have hj : (sJE (opM what) (ml m 126 (n - 1).toNat) (ml m 127 (n - 1).toNat) (ml m 126 n.toNat) (ml m 127 n.toNat)) = ckE (FX12_lesser m (FX12_lesser m ((ml m 126 (n - 1).toNat) * (ml m 126 n.toNat)) ((ml m 126 (n - 1).toNat) * (ml m 127 n.toNat))) (FX12_lesser m ((ml m 127 (n - 1).toNat) * (ml m 126 n.toNat)) ((ml m 127 (n - 1).toNat) * (ml m 127 n.toNat)))) (FX12_greater m (FX12_greater m ((ml m 126 (n - 1).toNat) * (ml m 126 n.toNat)) ((ml m 126 (n - 1).toNat) * (ml m 127 n.toNat))) (FX12_greater m ((ml m 127 (n - 1).toNat) * (ml m 126 n.toNat)) ((ml m 127 (n - 1).toNat) * (ml m 127 n.toNat)))) := by
        unfold sJE; rcases opM_cases hw2 with ⟨q, e⟩ | ⟨q, e⟩ | ⟨q, e⟩ | ⟨q, e⟩ | ⟨q, e⟩ | ⟨q, e⟩ | ⟨q, e⟩ | ⟨q, e⟩ | ⟨q, e⟩ | ⟨q, e⟩ | ⟨q, e⟩ | ⟨q, e⟩ | ⟨q, e⟩ | ⟨q, e⟩ | ⟨q, e⟩ | ⟨q, e⟩ | ⟨q, e⟩ <;> first | (exfalso; omega) | skip
        all_goals rw [e]
        all_goals simp only [FX12_lesser_eq, FX12_greater_eq, abE]
        all_goals first | rfl | (rw [if_neg (by decide), if_neg (by decide), if_neg (by decide), if_pos (by decide), if_neg (by omega)]; done) | (rw [if_neg (by decide), if_neg (by decide), if_neg (by decide), if_neg (by decide), if_pos (by decide), if_neg (by omega)]; congr 1 <;> (repeat' split) <;> omega) | (repeat' split) <;> (first | rfl | omega)
      rw [hj]
      exact ⟨rfl, ((SameP.rf m).scrap (Or.inr (Or.inl rfl)) _ _).scrap (Or.inr (Or.inr rfl)) _ _, fun _ => rfl⟩
    · skip
      by_cases hs36_1_43 : what = 43
      · skip
        refine j_tableIn (tgt := 96) rfl (by omega) (by omega) (by omega) (by omega) (by rw [hs36_1_43]; rfl) (by decide) ?_
        refine j_aload_n rfl rfl ?_
        refine j_iload_n rfl rfl ?_
        refine j_iconst rfl ?_
        refine j_isub rfl ?_
        refine j_lload_n rfl rfl ?_
        refine j_lload rfl rfl ?_
        refine j_ladd rfl ?_
        refine j_lload rfl rfl ?_
        refine j_lload rfl rfl ?_
        refine j_ladd rfl ?_
        refine j_callV (ci := 12) rfl okX12_layEnds c_X12_411 (ct_X12_layEnds hS hI (by omega) (by omega) (by omega) (by omega) (by omega) (by omega) (by omega) (by omega)) rfl rfl (hS.lt (by decide)) (hS.k (by decide) (by decide)) (by decide) rfl (Nat.le_of_ble_eq_true rfl) (by decide) (by decide) ?_
        rintro vq mq ⟨e1, e2⟩
        rw [e1, e2]
        clear e1 e2
        simp only [Option.toList_some, Option.toList_none, List.cons_append, List.nil_append]
        refine j_goto (tgt := 355) rfl (by decide) ?_
        refine j_loc (ls' := [(0, vR 86), (2, vI n)]) rfl ?_
        refine lp_ofTwo_355 hS hI hn0 hn9 (by omega) (by omega) ?_
        have hj : (sJE (opM what) (ml m 126 (n - 1).toNat) (ml m 127 (n - 1).toNat) (ml m 126 n.toNat) (ml m 127 n.toNat)) = ckE ((ml m 126 (n - 1).toNat) + (ml m 126 n.toNat)) ((ml m 127 (n - 1).toNat) + (ml m 127 n.toNat)) := by
          unfold sJE; rcases opM_cases hw2 with ⟨q, e⟩ | ⟨q, e⟩ | ⟨q, e⟩ | ⟨q, e⟩ | ⟨q, e⟩ | ⟨q, e⟩ | ⟨q, e⟩ | ⟨q, e⟩ | ⟨q, e⟩ | ⟨q, e⟩ | ⟨q, e⟩ | ⟨q, e⟩ | ⟨q, e⟩ | ⟨q, e⟩ | ⟨q, e⟩ | ⟨q, e⟩ | ⟨q, e⟩ <;> first | (exfalso; omega) | skip
          all_goals rw [e]
          all_goals simp only [FX12_lesser_eq, FX12_greater_eq, abE]
          all_goals first | rfl | (rw [if_neg (by decide), if_neg (by decide), if_neg (by decide), if_pos (by decide), if_neg (by omega)]; done) | (rw [if_neg (by decide), if_neg (by decide), if_neg (by decide), if_neg (by decide), if_pos (by decide), if_neg (by omega)]; congr 1 <;> (repeat' split) <;> omega) | (repeat' split) <;> (first | rfl | omega)
        rw [hj]
        exact ⟨rfl, ((SameP.rf m).scrap (Or.inr (Or.inl rfl)) _ _).scrap (Or.inr (Or.inr rfl)) _ _, fun _ => rfl⟩
      · skip
        by_cases hs36_1_45 : what = 45
        · skip
          refine j_tableIn (tgt := 115) rfl (by omega) (by omega) (by omega) (by omega) (by rw [hs36_1_45]; rfl) (by decide) ?_
          refine j_aload_n rfl rfl ?_
          refine j_iload_n rfl rfl ?_
          refine j_iconst rfl ?_
          refine j_isub rfl ?_
          refine j_lload_n rfl rfl ?_
          refine j_lload rfl rfl ?_
          refine j_lsub rfl ?_
          refine j_lload rfl rfl ?_
          refine j_lload rfl rfl ?_
          refine j_lsub rfl ?_
          refine j_callV (ci := 12) rfl okX12_layEnds c_X12_411 (ct_X12_layEnds hS hI (by omega) (by omega) (by omega) (by omega) (by omega) (by omega) (by omega) (by omega)) rfl rfl (hS.lt (by decide)) (hS.k (by decide) (by decide)) (by decide) rfl (Nat.le_of_ble_eq_true rfl) (by decide) (by decide) ?_
          rintro vq mq ⟨e1, e2⟩
          rw [e1, e2]
          clear e1 e2
          simp only [Option.toList_some, Option.toList_none, List.cons_append, List.nil_append]
          refine j_goto (tgt := 355) rfl (by decide) ?_
          refine j_loc (ls' := [(0, vR 86), (2, vI n)]) rfl ?_
          refine lp_ofTwo_355 hS hI hn0 hn9 (by omega) (by omega) ?_
          have hj : (sJE (opM what) (ml m 126 (n - 1).toNat) (ml m 127 (n - 1).toNat) (ml m 126 n.toNat) (ml m 127 n.toNat)) = ckE ((ml m 126 (n - 1).toNat) - (ml m 127 n.toNat)) ((ml m 127 (n - 1).toNat) - (ml m 126 n.toNat)) := by
            unfold sJE; rcases opM_cases hw2 with ⟨q, e⟩ | ⟨q, e⟩ | ⟨q, e⟩ | ⟨q, e⟩ | ⟨q, e⟩ | ⟨q, e⟩ | ⟨q, e⟩ | ⟨q, e⟩ | ⟨q, e⟩ | ⟨q, e⟩ | ⟨q, e⟩ | ⟨q, e⟩ | ⟨q, e⟩ | ⟨q, e⟩ | ⟨q, e⟩ | ⟨q, e⟩ | ⟨q, e⟩ <;> first | (exfalso; omega) | skip
            all_goals rw [e]
            all_goals simp only [FX12_lesser_eq, FX12_greater_eq, abE]
            all_goals first | rfl | (rw [if_neg (by decide), if_neg (by decide), if_neg (by decide), if_pos (by decide), if_neg (by omega)]; done) | (rw [if_neg (by decide), if_neg (by decide), if_neg (by decide), if_neg (by decide), if_pos (by decide), if_neg (by omega)]; congr 1 <;> (repeat' split) <;> omega) | (repeat' split) <;> (first | rfl | omega)
          rw [hj]
          exact ⟨rfl, ((SameP.rf m).scrap (Or.inr (Or.inl rfl)) _ _).scrap (Or.inr (Or.inr rfl)) _ _, fun _ => rfl⟩
        · skip
          by_cases hs36_1_47 : what = 47
          · skip
            refine j_tableIn (tgt := 198) rfl (by omega) (by omega) (by omega) (by omega) (by rw [hs36_1_47]; rfl) (by decide) ?_
            refine j_lload rfl rfl ?_
            refine j_lconst (v := 0) rfl (by decide) ?_
            refine j_lc_gt (tgt := 214) rfl rfl (by decide) (by omega) (by omega) (by omega) (by omega) (fun hb201_1 => ?_) (fun hb201_1 => ?_)
            · skip
              refine j_aload_n rfl rfl ?_
              refine j_iload_n rfl rfl ?_
              refine j_iconst rfl ?_
              refine j_isub rfl ?_
              refine j_lload_n rfl rfl ?_
              refine j_lload rfl rfl ?_
              refine j_ldiv rfl (by omega) (by omega) (by omega) (by omega) (by omega) ?_
              refine j_lload_n rfl rfl ?_
              refine j_lload rfl rfl ?_
              refine j_ldiv rfl (by omega) (by omega) (by omega) (by omega) (by omega) ?_
              refine j_callS (As := [_, _]) rfl okX12_lesser c_X12_421 (ct_X12_lesser (by omega) (by omega) (by omega) (by omega)) rfl rfl (Nat.le_of_ble_eq_true rfl) (by decide) (by decide) ?_
              rintro vq mq ⟨e1, e2⟩
              rw [e1, e2]
              clear e1 e2
              simp only [Option.toList_some, Option.toList_none, List.cons_append, List.nil_append]
              have lq512 := FX12_lesser_rng m ((ml m 126 (n - 1).toNat).tdiv (ml m 126 n.toNat)) ((ml m 126 (n - 1).toNat).tdiv (ml m 127 n.toNat))
              refine j_lload rfl rfl ?_
              refine j_lload rfl rfl ?_
              refine j_ldiv rfl (by omega) (by omega) (by omega) (by omega) (by omega) ?_
              refine j_lload rfl rfl ?_
              refine j_lload rfl rfl ?_
              refine j_ldiv rfl (by omega) (by omega) (by omega) (by omega) (by omega) ?_
              refine j_callS (As := [_, _]) rfl okX12_lesser c_X12_421 (ct_X12_lesser (by omega) (by omega) (by omega) (by omega)) rfl rfl (Nat.le_of_ble_eq_true rfl) (by decide) (by decide) ?_
              rintro vq mq ⟨e1, e2⟩
              rw [e1, e2]
              clear e1 e2
              simp only [Option.toList_some, Option.toList_none, List.cons_append, List.nil_append]
              have lq524 := FX12_lesser_rng m ((ml m 127 (n - 1).toNat).tdiv (ml m 126 n.toNat)) ((ml m 127 (n - 1).toNat).tdiv (ml m 127 n.toNat))
              refine j_callS (As := [_, _]) rfl okX12_lesser c_X12_421 (ct_X12_lesser (by omega) (by omega) (by omega) (by omega)) rfl rfl (Nat.le_of_ble_eq_true rfl) (by decide) (by decide) ?_
              rintro vq mq ⟨e1, e2⟩
              rw [e1, e2]
              clear e1 e2
              simp only [Option.toList_some, Option.toList_none, List.cons_append, List.nil_append]
              have lq530 := FX12_lesser_rng m (FX12_lesser m ((ml m 126 (n - 1).toNat).tdiv (ml m 126 n.toNat)) ((ml m 126 (n - 1).toNat).tdiv (ml m 127 n.toNat))) (FX12_lesser m ((ml m 127 (n - 1).toNat).tdiv (ml m 126 n.toNat)) ((ml m 127 (n - 1).toNat).tdiv (ml m 127 n.toNat)))
              refine j_lload_n rfl rfl ?_
              refine j_lload rfl rfl ?_
              refine j_ldiv rfl (by omega) (by omega) (by omega) (by omega) (by omega) ?_
              refine j_lload_n rfl rfl ?_
              refine j_lload rfl rfl ?_
              refine j_ldiv rfl (by omega) (by omega) (by omega) (by omega) (by omega) ?_
              refine j_callS (As := [_, _]) rfl okX12_greater c_X12_424 (ct_X12_greater (by omega) (by omega) (by omega) (by omega)) rfl rfl (Nat.le_of_ble_eq_true rfl) (by decide) (by decide) ?_
              rintro vq mq ⟨e1, e2⟩
              rw [e1, e2]
              clear e1 e2
              simp only [Option.toList_some, Option.toList_none, List.cons_append, List.nil_append]
              have lq542 := FX12_greater_rng m ((ml m 126 (n - 1).toNat).tdiv (ml m 126 n.toNat)) ((ml m 126 (n - 1).toNat).tdiv (ml m 127 n.toNat))
              refine j_lload rfl rfl ?_
              refine j_lload rfl rfl ?_
              refine j_ldiv rfl (by omega) (by omega) (by omega) (by omega) (by omega) ?_
              refine j_lload rfl rfl ?_
              refine j_lload rfl rfl ?_
              refine j_ldiv rfl (by omega) (by omega) (by omega) (by omega) (by omega) ?_
              refine j_callS (As := [_, _]) rfl okX12_greater c_X12_424 (ct_X12_greater (by omega) (by omega) (by omega) (by omega)) rfl rfl (Nat.le_of_ble_eq_true rfl) (by decide) (by decide) ?_
              rintro vq mq ⟨e1, e2⟩
              rw [e1, e2]
              clear e1 e2
              simp only [Option.toList_some, Option.toList_none, List.cons_append, List.nil_append]
              have lq554 := FX12_greater_rng m ((ml m 127 (n - 1).toNat).tdiv (ml m 126 n.toNat)) ((ml m 127 (n - 1).toNat).tdiv (ml m 127 n.toNat))
              refine j_callS (As := [_, _]) rfl okX12_greater c_X12_424 (ct_X12_greater (by omega) (by omega) (by omega) (by omega)) rfl rfl (Nat.le_of_ble_eq_true rfl) (by decide) (by decide) ?_
              rintro vq mq ⟨e1, e2⟩
              rw [e1, e2]
              clear e1 e2
              simp only [Option.toList_some, Option.toList_none, List.cons_append, List.nil_append]
              have lq560 := FX12_greater_rng m (FX12_greater m ((ml m 126 (n - 1).toNat).tdiv (ml m 126 n.toNat)) ((ml m 126 (n - 1).toNat).tdiv (ml m 127 n.toNat))) (FX12_greater m ((ml m 127 (n - 1).toNat).tdiv (ml m 126 n.toNat)) ((ml m 127 (n - 1).toNat).tdiv (ml m 127 n.toNat)))
              refine j_callV (ci := 12) rfl okX12_layEnds c_X12_411 (ct_X12_layEnds hS hI (by omega) (by omega) (by omega) (by omega) (by omega) (by omega) (by omega) (by omega)) rfl rfl (hS.lt (by decide)) (hS.k (by decide) (by decide)) (by decide) rfl (Nat.le_of_ble_eq_true rfl) (by decide) (by decide) ?_
              rintro vq mq ⟨e1, e2⟩
              rw [e1, e2]
              clear e1 e2
              simp only [Option.toList_some, Option.toList_none, List.cons_append, List.nil_append]
              refine j_goto (tgt := 355) rfl (by decide) ?_
              refine j_loc (ls' := [(0, vR 86), (2, vI n)]) rfl ?_
              refine lp_ofTwo_355 hS hI hn0 hn9 (by omega) (by omega) ?_
              have hj : (sJE (opM what) (ml m 126 (n - 1).toNat) (ml m 127 (n - 1).toNat) (ml m 126 n.toNat) (ml m 127 n.toNat)) = ckE (FX12_lesser m (FX12_lesser m ((ml m 126 (n - 1).toNat).tdiv (ml m 126 n.toNat)) ((ml m 126 (n - 1).toNat).tdiv (ml m 127 n.toNat))) (FX12_lesser m ((ml m 127 (n - 1).toNat).tdiv (ml m 126 n.toNat)) ((ml m 127 (n - 1).toNat).tdiv (ml m 127 n.toNat)))) (FX12_greater m (FX12_greater m ((ml m 126 (n - 1).toNat).tdiv (ml m 126 n.toNat)) ((ml m 126 (n - 1).toNat).tdiv (ml m 127 n.toNat))) (FX12_greater m ((ml m 127 (n - 1).toNat).tdiv (ml m 126 n.toNat)) ((ml m 127 (n - 1).toNat).tdiv (ml m 127 n.toNat)))) := by
                unfold sJE; rcases opM_cases hw2 with ⟨q, e⟩ | ⟨q, e⟩ | ⟨q, e⟩ | ⟨q, e⟩ | ⟨q, e⟩ | ⟨q, e⟩ | ⟨q, e⟩ | ⟨q, e⟩ | ⟨q, e⟩ | ⟨q, e⟩ | ⟨q, e⟩ | ⟨q, e⟩ | ⟨q, e⟩ | ⟨q, e⟩ | ⟨q, e⟩ | ⟨q, e⟩ | ⟨q, e⟩ <;> first | (exfalso; omega) | skip
                all_goals rw [e]
                all_goals simp only [FX12_lesser_eq, FX12_greater_eq, abE]
                all_goals first | rfl | (rw [if_neg (by decide), if_neg (by decide), if_neg (by decide), if_pos (by decide), if_neg (by omega)]; done) | (rw [if_neg (by decide), if_neg (by decide), if_neg (by decide), if_neg (by decide), if_pos (by decide), if_neg (by omega)]; congr 1 <;> (repeat' split) <;> omega) | (repeat' split) <;> (first | rfl | omega)
              rw [hj]
              exact ⟨rfl, ((SameP.rf m).scrap (Or.inr (Or.inl rfl)) _ _).scrap (Or.inr (Or.inr rfl)) _ _, fun _ => rfl⟩
            · skip
              refine j_lload rfl rfl ?_
              refine j_lconst (v := 0) rfl (by decide) ?_
              refine j_lc_lt (tgt := 214) rfl rfl (by decide) (by omega) (by omega) (by omega) (by omega) (fun hb208_1 => ?_) (fun hb208_1 => ?_)
              · skip
                refine j_aload_n rfl rfl ?_
                refine j_iload_n rfl rfl ?_
                refine j_iconst rfl ?_
                refine j_isub rfl ?_
                refine j_lload_n rfl rfl ?_
                refine j_lload rfl rfl ?_
                refine j_ldiv rfl (by omega) (by omega) (by omega) (by omega) (by omega) ?_
                refine j_lload_n rfl rfl ?_
                refine j_lload rfl rfl ?_
                refine j_ldiv rfl (by omega) (by omega) (by omega) (by omega) (by omega) ?_
                refine j_callS (As := [_, _]) rfl okX12_lesser c_X12_421 (ct_X12_lesser (by omega) (by omega) (by omega) (by omega)) rfl rfl (Nat.le_of_ble_eq_true rfl) (by decide) (by decide) ?_
                rintro vq mq ⟨e1, e2⟩
                rw [e1, e2]
                clear e1 e2
                simp only [Option.toList_some, Option.toList_none, List.cons_append, List.nil_append]
                have lq596 := FX12_lesser_rng m ((ml m 126 (n - 1).toNat).tdiv (ml m 126 n.toNat)) ((ml m 126 (n - 1).toNat).tdiv (ml m 127 n.toNat))
                refine j_lload rfl rfl ?_
                refine j_lload rfl rfl ?_
                refine j_ldiv rfl (by omega) (by omega) (by omega) (by omega) (by omega) ?_
                refine j_lload rfl rfl ?_
                refine j_lload rfl rfl ?_
                refine j_ldiv rfl (by omega) (by omega) (by omega) (by omega) (by omega) ?_
                refine j_callS (As := [_, _]) rfl okX12_lesser c_X12_421 (ct_X12_lesser (by omega) (by omega) (by omega) (by omega)) rfl rfl (Nat.le_of_ble_eq_true rfl) (by decide) (by decide) ?_
                rintro vq mq ⟨e1, e2⟩
                rw [e1, e2]
                clear e1 e2
                simp only [Option.toList_some, Option.toList_none, List.cons_append, List.nil_append]
                have lq608 := FX12_lesser_rng m ((ml m 127 (n - 1).toNat).tdiv (ml m 126 n.toNat)) ((ml m 127 (n - 1).toNat).tdiv (ml m 127 n.toNat))
                refine j_callS (As := [_, _]) rfl okX12_lesser c_X12_421 (ct_X12_lesser (by omega) (by omega) (by omega) (by omega)) rfl rfl (Nat.le_of_ble_eq_true rfl) (by decide) (by decide) ?_
                rintro vq mq ⟨e1, e2⟩
                rw [e1, e2]
                clear e1 e2
                simp only [Option.toList_some, Option.toList_none, List.cons_append, List.nil_append]
                have lq614 := FX12_lesser_rng m (FX12_lesser m ((ml m 126 (n - 1).toNat).tdiv (ml m 126 n.toNat)) ((ml m 126 (n - 1).toNat).tdiv (ml m 127 n.toNat))) (FX12_lesser m ((ml m 127 (n - 1).toNat).tdiv (ml m 126 n.toNat)) ((ml m 127 (n - 1).toNat).tdiv (ml m 127 n.toNat)))
                refine j_lload_n rfl rfl ?_
                refine j_lload rfl rfl ?_
                refine j_ldiv rfl (by omega) (by omega) (by omega) (by omega) (by omega) ?_
                refine j_lload_n rfl rfl ?_
                refine j_lload rfl rfl ?_
                refine j_ldiv rfl (by omega) (by omega) (by omega) (by omega) (by omega) ?_
                refine j_callS (As := [_, _]) rfl okX12_greater c_X12_424 (ct_X12_greater (by omega) (by omega) (by omega) (by omega)) rfl rfl (Nat.le_of_ble_eq_true rfl) (by decide) (by decide) ?_
                rintro vq mq ⟨e1, e2⟩
                rw [e1, e2]
                clear e1 e2
                simp only [Option.toList_some, Option.toList_none, List.cons_append, List.nil_append]
                have lq626 := FX12_greater_rng m ((ml m 126 (n - 1).toNat).tdiv (ml m 126 n.toNat)) ((ml m 126 (n - 1).toNat).tdiv (ml m 127 n.toNat))
                refine j_lload rfl rfl ?_
                refine j_lload rfl rfl ?_
                refine j_ldiv rfl (by omega) (by omega) (by omega) (by omega) (by omega) ?_
                refine j_lload rfl rfl ?_
                refine j_lload rfl rfl ?_
                refine j_ldiv rfl (by omega) (by omega) (by omega) (by omega) (by omega) ?_
                refine j_callS (As := [_, _]) rfl okX12_greater c_X12_424 (ct_X12_greater (by omega) (by omega) (by omega) (by omega)) rfl rfl (Nat.le_of_ble_eq_true rfl) (by decide) (by decide) ?_
                rintro vq mq ⟨e1, e2⟩
                rw [e1, e2]
                clear e1 e2
                simp only [Option.toList_some, Option.toList_none, List.cons_append, List.nil_append]
                have lq638 := FX12_greater_rng m ((ml m 127 (n - 1).toNat).tdiv (ml m 126 n.toNat)) ((ml m 127 (n - 1).toNat).tdiv (ml m 127 n.toNat))
                refine j_callS (As := [_, _]) rfl okX12_greater c_X12_424 (ct_X12_greater (by omega) (by omega) (by omega) (by omega)) rfl rfl (Nat.le_of_ble_eq_true rfl) (by decide) (by decide) ?_
                rintro vq mq ⟨e1, e2⟩
                rw [e1, e2]
                clear e1 e2
                simp only [Option.toList_some, Option.toList_none, List.cons_append, List.nil_append]
                have lq644 := FX12_greater_rng m (FX12_greater m ((ml m 126 (n - 1).toNat).tdiv (ml m 126 n.toNat)) ((ml m 126 (n - 1).toNat).tdiv (ml m 127 n.toNat))) (FX12_greater m ((ml m 127 (n - 1).toNat).tdiv (ml m 126 n.toNat)) ((ml m 127 (n - 1).toNat).tdiv (ml m 127 n.toNat)))
                refine j_callV (ci := 12) rfl okX12_layEnds c_X12_411 (ct_X12_layEnds hS hI (by omega) (by omega) (by omega) (by omega) (by omega) (by omega) (by omega) (by omega)) rfl rfl (hS.lt (by decide)) (hS.k (by decide) (by decide)) (by decide) rfl (Nat.le_of_ble_eq_true rfl) (by decide) (by decide) ?_
                rintro vq mq ⟨e1, e2⟩
                rw [e1, e2]
                clear e1 e2
                simp only [Option.toList_some, Option.toList_none, List.cons_append, List.nil_append]
                refine j_goto (tgt := 355) rfl (by decide) ?_
                refine j_loc (ls' := [(0, vR 86), (2, vI n)]) rfl ?_
                refine lp_ofTwo_355 hS hI hn0 hn9 (by omega) (by omega) ?_
                have hj : (sJE (opM what) (ml m 126 (n - 1).toNat) (ml m 127 (n - 1).toNat) (ml m 126 n.toNat) (ml m 127 n.toNat)) = ckE (FX12_lesser m (FX12_lesser m ((ml m 126 (n - 1).toNat).tdiv (ml m 126 n.toNat)) ((ml m 126 (n - 1).toNat).tdiv (ml m 127 n.toNat))) (FX12_lesser m ((ml m 127 (n - 1).toNat).tdiv (ml m 126 n.toNat)) ((ml m 127 (n - 1).toNat).tdiv (ml m 127 n.toNat)))) (FX12_greater m (FX12_greater m ((ml m 126 (n - 1).toNat).tdiv (ml m 126 n.toNat)) ((ml m 126 (n - 1).toNat).tdiv (ml m 127 n.toNat))) (FX12_greater m ((ml m 127 (n - 1).toNat).tdiv (ml m 126 n.toNat)) ((ml m 127 (n - 1).toNat).tdiv (ml m 127 n.toNat)))) := by
                  unfold sJE; rcases opM_cases hw2 with ⟨q, e⟩ | ⟨q, e⟩ | ⟨q, e⟩ | ⟨q, e⟩ | ⟨q, e⟩ | ⟨q, e⟩ | ⟨q, e⟩ | ⟨q, e⟩ | ⟨q, e⟩ | ⟨q, e⟩ | ⟨q, e⟩ | ⟨q, e⟩ | ⟨q, e⟩ | ⟨q, e⟩ | ⟨q, e⟩ | ⟨q, e⟩ | ⟨q, e⟩ <;> first | (exfalso; omega) | skip
                  all_goals rw [e]
                  all_goals simp only [FX12_lesser_eq, FX12_greater_eq, abE]
                  all_goals first | rfl | (rw [if_neg (by decide), if_neg (by decide), if_neg (by decide), if_pos (by decide), if_neg (by omega)]; done) | (rw [if_neg (by decide), if_neg (by decide), if_neg (by decide), if_neg (by decide), if_pos (by decide), if_neg (by omega)]; congr 1 <;> (repeat' split) <;> omega) | (repeat' split) <;> (first | rfl | omega)
                rw [hj]
                exact ⟨rfl, ((SameP.rf m).scrap (Or.inr (Or.inl rfl)) _ _).scrap (Or.inr (Or.inr rfl)) _ _, fun _ => rfl⟩
              · skip
                refine j_iconst rfl ?_
                refine j_zret rfl rfl (by decide) ?_ rfl (Nat.le_refl _)
                have hj : (sJE (opM what) (ml m 126 (n - 1).toNat) (ml m 127 (n - 1).toNat) (ml m 126 n.toNat) (ml m 127 n.toNat)) = (0, 0, 0) := by
                  unfold sJE
                  rcases opM_cases hw2 with ⟨q, e⟩ | ⟨q, e⟩ | ⟨q, e⟩ | ⟨q, e⟩ | ⟨q, e⟩ | ⟨q, e⟩ | ⟨q, e⟩ | ⟨q, e⟩ | ⟨q, e⟩ | ⟨q, e⟩ | ⟨q, e⟩ | ⟨q, e⟩ | ⟨q, e⟩ | ⟨q, e⟩ | ⟨q, e⟩ | ⟨q, e⟩ | ⟨q, e⟩ <;> first | (exfalso; omega) | skip
                  all_goals rw [e]
                  all_goals first | (rw [if_neg (by decide), if_neg (by decide), if_neg (by decide), if_pos (by decide), if_pos (by omega)]; done) | (rw [if_neg (by decide), if_neg (by decide), if_neg (by decide), if_neg (by decide), if_pos (by decide), if_pos (by omega)]; done)
                rw [hj]
                exact ⟨rfl, SameP.rf m, fun q => absurd rfl q⟩
          · skip
            refine j_tableDef (tgt := 346) rfl (by omega) (by omega) (by rcases (show what < 37 ∨ 47 < what ∨ what = 38 ∨ what = 39 ∨ what = 40 ∨ what = 41 ∨ what = 44 ∨ what = 46 from by omega) with q | q | q | q | q | q | q | q <;> first | exact Or.inl q | exact Or.inr (Or.inl q) | (rw [q]; exact Or.inr (Or.inr rfl))) (by decide) ?_
            refine j_aload_n rfl rfl ?_
            refine j_iload_n rfl rfl ?_
            refine j_iconst rfl ?_
            refine j_isub rfl ?_
            refine j_lconst (v := 0) rfl (by decide) ?_
            refine j_lconst (v := 1) rfl (by decide) ?_
            refine j_callV (ci := 12) rfl okX12_layEnds c_X12_411 (ct_X12_layEnds hS hI (by omega) (by omega) (by omega) (by omega) (by omega) (by omega) (by omega) (by omega)) rfl rfl (hS.lt (by decide)) (hS.k (by decide) (by decide)) (by decide) rfl (Nat.le_of_ble_eq_true rfl) (by decide) (by decide) ?_
            rintro vq mq ⟨e1, e2⟩
            rw [e1, e2]
            clear e1 e2
            simp only [Option.toList_some, Option.toList_none, List.cons_append, List.nil_append]
            refine j_loc (ls' := [(0, vR 86), (2, vI n)]) rfl ?_
            refine lp_ofTwo_355 hS hI hn0 hn9 (by omega) (by omega) ?_
            have hj : (sJE (opM what) (ml m 126 (n - 1).toNat) (ml m 127 (n - 1).toNat) (ml m 126 n.toNat) (ml m 127 n.toNat)) = ckE 0 1 := by
              unfold sJE; rcases opM_cases hw2 with ⟨q, e⟩ | ⟨q, e⟩ | ⟨q, e⟩ | ⟨q, e⟩ | ⟨q, e⟩ | ⟨q, e⟩ | ⟨q, e⟩ | ⟨q, e⟩ | ⟨q, e⟩ | ⟨q, e⟩ | ⟨q, e⟩ | ⟨q, e⟩ | ⟨q, e⟩ | ⟨q, e⟩ | ⟨q, e⟩ | ⟨q, e⟩ | ⟨q, e⟩ <;> first | (exfalso; omega) | skip
              all_goals rw [e]
              all_goals simp only [FX12_lesser_eq, FX12_greater_eq, abE]
              all_goals first | rfl | (rw [if_neg (by decide), if_neg (by decide), if_neg (by decide), if_pos (by decide), if_neg (by omega)]; done) | (rw [if_neg (by decide), if_neg (by decide), if_neg (by decide), if_neg (by decide), if_pos (by decide), if_neg (by omega)]; congr 1 <;> (repeat' split) <;> omega) | (repeat' split) <;> (first | rfl | omega)
            rw [hj]
            exact ⟨rfl, ((SameP.rf m).scrap (Or.inr (Or.inl rfl)) _ _).scrap (Or.inr (Or.inr rfl)) _ _, fun _ => rfl⟩


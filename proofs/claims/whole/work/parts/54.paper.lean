/-- a paper is written -/
def paM (m : AM) (sort k v one other : Int) : AM :=
  si (si (si (si (si (si m 133 (mi m 86 70).toNat sort) 134 (mi m 86 70).toNat k) 135 (mi m 86 70).toNat v) 136 (2 * mi m 86 70).toNat (if one = 99 then -1 else one)) 136 ((2 * mi m 86 70) + 1).toNat (if other = 99 then -1 else other)) 86 70 (mi m 86 70 + 1)
/-- what may be claimed -/
def clP (m : AM) (sort k v : Int) : Prop := if sort = 0 then (10 ≤ k ∧ k - 10 < mi m 86 1) ∨ (0 ≤ k ∧ k ≤ 2 ∧ 0 ≤ v ∧ v ≤ 99999) else (10 ≤ k ∧ k - 10 < mi m 86 1) ∧ 0 ≤ v ∧ v / 100 < mi m 86 21 ∧ v % 100 ≠ 0
def grP (m : AM) (on : Int) : Prop := (on / 100 = 99 ∨ (0 ≤ on / 100 ∧ on / 100 < mi m 86 70)) ∧ (on % 100 = 99 ∨ (0 ≤ on % 100 ∧ on % 100 < mi m 86 70))

set_option maxRecDepth 20000 in
set_option maxHeartbeats 4000000 in
theorem lp_paper_159 {G : QW} {m : AM} {sort k v on one other : Int} {Rp : Option Vl → AM → Prop} (hS : St m) (hI : IM m) (hs1 : -2147483648 ≤ sort ∧ sort < 2147483648) (hk1 : -2147483648 ≤ k ∧ k < 2147483648) (hv1 : -2147483648 ≤ v ∧ v < 2147483648) (h1 : 0 ≤ one ∧ one ≤ 99) (h2 : 0 ≤ other ∧ other ≤ 99) (h20 : mi m 86 70 = 20 → Rp (some (vI (-3))) m) (hok : mi m 86 70 ≠ 20 → Rp (some (vI (mi m 86 70))) (paM m sort k v one other)) : qJ G mX12_paper { frames := 2, cells := 0, slots := 0, locals := 60 * 2 } (qF G Rp 0 0) 159 [(0, vR 86), (1, vI sort), (2, vI k), (3, vI v), (4, vI on), (6, vI one), (7, vI other)] [] m 0 0 := by
  have hpp := hI.s 86 70 0 20 (by decide)
  refine j_aload_n rfl rfl ?_
  refine j_getI rfl f_X12_458 rfl (hS.lt (by decide)) (hS.k (by decide) (by decide)) ?_
  have u160_1 := hI.s 86 70 (0) 20 (by decide)
  refine j_bipush rfl (by decide) ?_
  refine j_icmp_ne (tgt := 171) rfl (by decide) (by omega) (by omega) (by omega) (by omega) (fun hb165_1 => ?_) (fun hb165_1 => ?_)
  · skip
    refine j_aload_n rfl rfl ?_
    refine j_getR (q := 133) rfl f_X12_151 rfl (hS.lt (by decide)) (hS.k (by decide) (by decide)) (hS.r (by decide)) ?_
    refine j_aload_n rfl rfl ?_
    refine j_getI rfl f_X12_458 rfl (hS.lt (by decide)) (hS.k (by decide) (by decide)) ?_
    have u176_1 := hI.s 86 70 (0) 20 (by decide)
    refine j_iload_n rfl rfl ?_
    refine j_iast (n := 20) rfl (hS.lt (by decide)) (hS.k (by decide) (by decide)) (hS.n (by decide) (by decide)) (by omega) (by omega) (by first | decide | omega) ?_
    refine j_aload_n rfl rfl ?_
    refine j_getR (q := 134) rfl f_X12_154 rfl (hS.lt (by decide)) (hS.k (by decide) (by decide)) (hS.r (by decide)) ?_
    refine j_aload_n rfl rfl ?_
    refine j_getI rfl f_X12_458 rfl (hS.lt (by decide)) (hS.k (by decide) (by decide)) ?_
    rw [show mi (si m 133 (mi m 86 70).toNat sort) 86 70 = mi m 86 70 from by simp [mi_si, mi_fil, mi_cpr, mi_sl, mi_sr]]
    have u186_1 := hI.s 86 70 (0) 20 (by decide)
    refine j_iload_n rfl rfl ?_
    refine j_iast (n := 20) rfl (hS.lt (by decide)) (hS.k (by decide) (by decide)) (hS.n (by decide) (by decide)) (by omega) (by omega) (by first | decide | omega) ?_
    refine j_aload_n rfl rfl ?_
    refine j_getR (q := 135) rfl f_X12_157 rfl (hS.lt (by decide)) (hS.k (by decide) (by decide)) (hS.r (by decide)) ?_
    refine j_aload_n rfl rfl ?_
    refine j_getI rfl f_X12_458 rfl (hS.lt (by decide)) (hS.k (by decide) (by decide)) ?_
    rw [show mi (si (si m 133 (mi m 86 70).toNat sort) 134 (mi m 86 70).toNat k) 86 70 = mi m 86 70 from by simp [mi_si, mi_fil, mi_cpr, mi_sl, mi_sr]]
    have u196_1 := hI.s 86 70 (0) 20 (by decide)
    refine j_iload_n rfl rfl ?_
    refine j_iast (n := 20) rfl (hS.lt (by decide)) (hS.k (by decide) (by decide)) (hS.n (by decide) (by decide)) (by omega) (by omega) (by first | decide | omega) ?_
    refine j_aload_n rfl rfl ?_
    refine j_getR (q := 136) rfl f_X12_160 rfl (hS.lt (by decide)) (hS.k (by decide) (by decide)) (hS.r (by decide)) ?_
    refine j_iconst rfl ?_
    refine j_aload_n rfl rfl ?_
    refine j_getI rfl f_X12_458 rfl (hS.lt (by decide)) (hS.k (by decide) (by decide)) ?_
    rw [show mi (si (si (si m 133 (mi m 86 70).toNat sort) 134 (mi m 86 70).toNat k) 135 (mi m 86 70).toNat v) 86 70 = mi m 86 70 from by simp [mi_si, mi_fil, mi_cpr, mi_sl, mi_sr]]
    have u207_1 := hI.s 86 70 (0) 20 (by decide)
    refine j_imul rfl ?_
    refine j_iload rfl rfl ?_
    refine j_bipush rfl (by decide) ?_
    refine j_icmp_ne (tgt := 222) rfl (by decide) (by omega) (by omega) (by omega) (by omega) (fun hb215_1 => ?_) (fun hb215_1 => ?_)
    · skip
      refine j_iload rfl rfl ?_
      refine j_iast (n := 40) rfl (hS.lt (by decide)) (hS.k (by decide) (by decide)) (hS.n (by decide) (by decide)) (by omega) (by omega) (by first | decide | omega) ?_
      refine qJ_mem (m' := (si (si (si (si m 133 (mi m 86 70).toNat sort) 134 (mi m 86 70).toNat k) 135 (mi m 86 70).toNat v) 136 (2 * (mi m 86 70)).toNat (if one = 99 then -1 else one))) (by rw [show (if one = 99 then -1 else one) = one from by first | exact if_pos (by omega) | exact if_neg (by omega)]) ?_
      refine j_aload_n rfl rfl ?_
      refine j_getR (q := 136) rfl f_X12_160 rfl (hS.lt (by decide)) (hS.k (by decide) (by decide)) (hS.r (by decide)) ?_
      refine j_iconst rfl ?_
      refine j_aload_n rfl rfl ?_
      refine j_getI rfl f_X12_458 rfl (hS.lt (by decide)) (hS.k (by decide) (by decide)) ?_
      rw [show mi (si (si (si (si m 133 (mi m 86 70).toNat sort) 134 (mi m 86 70).toNat k) 135 (mi m 86 70).toNat v) 136 (2 * (mi m 86 70)).toNat (if one = 99 then -1 else one)) 86 70 = mi m 86 70 from by simp [mi_si, mi_fil, mi_cpr, mi_sl, mi_sr]]
      have u231_1 := hI.s 86 70 (0) 20 (by decide)
      refine j_imul rfl ?_
      refine j_iconst rfl ?_
      refine j_iadd rfl ?_
      refine j_iload rfl rfl ?_
      refine j_bipush rfl (by decide) ?_
      refine j_icmp_ne (tgt := 248) rfl (by decide) (by omega) (by omega) (by omega) (by omega) (fun hb241_1 => ?_) (fun hb241_1 => ?_)
      · skip
        refine j_iload rfl rfl ?_
        refine j_iast (n := 40) rfl (hS.lt (by decide)) (hS.k (by decide) (by decide)) (hS.n (by decide) (by decide)) (by omega) (by omega) (by first | decide | omega) ?_
        refine qJ_mem (m' := (si (si (si (si (si m 133 (mi m 86 70).toNat sort) 134 (mi m 86 70).toNat k) 135 (mi m 86 70).toNat v) 136 (2 * (mi m 86 70)).toNat (if one = 99 then -1 else one)) 136 ((2 * (mi m 86 70)) + 1).toNat (if other = 99 then -1 else other))) (by rw [show (if other = 99 then -1 else other) = other from by first | exact if_pos (by omega) | exact if_neg (by omega)]) ?_
        refine j_aload_n rfl rfl ?_
        refine j_dup rfl (Nat.ne_of_beq_eq_false rfl) ?_
        refine j_getI rfl f_X12_458 rfl (hS.lt (by decide)) (hS.k (by decide) (by decide)) ?_
        rw [show mi (si (si (si (si (si m 133 (mi m 86 70).toNat sort) 134 (mi m 86 70).toNat k) 135 (mi m 86 70).toNat v) 136 (2 * (mi m 86 70)).toNat (if one = 99 then -1 else one)) 136 ((2 * (mi m 86 70)) + 1).toNat (if other = 99 then -1 else other)) 86 70 = mi m 86 70 from by simp [mi_si, mi_fil, mi_cpr, mi_sl, mi_sr]]
        have u253_1 := hI.s 86 70 (0) 20 (by decide)
        refine j_iconst rfl ?_
        refine j_iadd rfl ?_
        refine j_putI rfl f_X12_458 rfl (hS.lt (by decide)) (hS.k (by decide) (by decide)) ?_
        refine j_aload_n rfl rfl ?_
        refine j_getI rfl f_X12_458 rfl (hS.lt (by decide)) (hS.k (by decide) (by decide)) ?_
        have u262_1 := mi_rng (si (si (si (si (si (si m 133 (mi m 86 70).toNat sort) 134 (mi m 86 70).toNat k) 135 (mi m 86 70).toNat v) 136 (2 * (mi m 86 70)).toNat (if one = 99 then -1 else one)) 136 ((2 * (mi m 86 70)) + 1).toNat (if other = 99 then -1 else other)) 86 70 ((mi m 86 70) + 1)) 86 70
        refine j_iconst rfl ?_
        refine j_isub rfl ?_
        refine j_iret rfl rfl ?_ rfl (Nat.le_refl _)
        have e : (mi (si (si (si (si (si (si m 133 (mi m 86 70).toNat sort) 134 (mi m 86 70).toNat k) 135 (mi m 86 70).toNat v) 136 (2 * (mi m 86 70)).toNat (if one = 99 then -1 else one)) 136 ((2 * (mi m 86 70)) + 1).toNat (if other = 99 then -1 else other)) 86 70 ((mi m 86 70) + 1)) 86 70) - 1 = mi m 86 70 := by rw [mi_si_same _ _ _ (by omega) (by omega)]; omega
        rw [e]
        exact hok (by omega)
      · skip
        refine j_iconst rfl ?_
        refine j_goto (tgt := 250) rfl (by decide) ?_
        refine j_iast (n := 40) rfl (hS.lt (by decide)) (hS.k (by decide) (by decide)) (hS.n (by decide) (by decide)) (by omega) (by omega) (by first | decide | omega) ?_
        refine qJ_mem (m' := (si (si (si (si (si m 133 (mi m 86 70).toNat sort) 134 (mi m 86 70).toNat k) 135 (mi m 86 70).toNat v) 136 (2 * (mi m 86 70)).toNat (if one = 99 then -1 else one)) 136 ((2 * (mi m 86 70)) + 1).toNat (if other = 99 then -1 else other))) (by rw [show (if other = 99 then -1 else other) = (-1) from by first | exact if_pos (by omega) | exact if_neg (by omega)]) ?_
        refine j_aload_n rfl rfl ?_
        refine j_dup rfl (Nat.ne_of_beq_eq_false rfl) ?_
        refine j_getI rfl f_X12_458 rfl (hS.lt (by decide)) (hS.k (by decide) (by decide)) ?_
        rw [show mi (si (si (si (si (si m 133 (mi m 86 70).toNat sort) 134 (mi m 86 70).toNat k) 135 (mi m 86 70).toNat v) 136 (2 * (mi m 86 70)).toNat (if one = 99 then -1 else one)) 136 ((2 * (mi m 86 70)) + 1).toNat (if other = 99 then -1 else other)) 86 70 = mi m 86 70 from by simp [mi_si, mi_fil, mi_cpr, mi_sl, mi_sr]]
        have u253_2 := hI.s 86 70 (0) 20 (by decide)
        refine j_iconst rfl ?_
        refine j_iadd rfl ?_
        refine j_putI rfl f_X12_458 rfl (hS.lt (by decide)) (hS.k (by decide) (by decide)) ?_
        refine j_aload_n rfl rfl ?_
        refine j_getI rfl f_X12_458 rfl (hS.lt (by decide)) (hS.k (by decide) (by decide)) ?_
        have u262_2 := mi_rng (si (si (si (si (si (si m 133 (mi m 86 70).toNat sort) 134 (mi m 86 70).toNat k) 135 (mi m 86 70).toNat v) 136 (2 * (mi m 86 70)).toNat (if one = 99 then -1 else one)) 136 ((2 * (mi m 86 70)) + 1).toNat (if other = 99 then -1 else other)) 86 70 ((mi m 86 70) + 1)) 86 70
        refine j_iconst rfl ?_
        refine j_isub rfl ?_
        refine j_iret rfl rfl ?_ rfl (Nat.le_refl _)
        have e : (mi (si (si (si (si (si (si m 133 (mi m 86 70).toNat sort) 134 (mi m 86 70).toNat k) 135 (mi m 86 70).toNat v) 136 (2 * (mi m 86 70)).toNat (if one = 99 then -1 else one)) 136 ((2 * (mi m 86 70)) + 1).toNat (if other = 99 then -1 else other)) 86 70 ((mi m 86 70) + 1)) 86 70) - 1 = mi m 86 70 := by rw [mi_si_same _ _ _ (by omega) (by omega)]; omega
        rw [e]
        exact hok (by omega)
    · skip
      refine j_iconst rfl ?_
      refine j_goto (tgt := 224) rfl (by decide) ?_
      refine j_iast (n := 40) rfl (hS.lt (by decide)) (hS.k (by decide) (by decide)) (hS.n (by decide) (by decide)) (by omega) (by omega) (by first | decide | omega) ?_
      refine qJ_mem (m' := (si (si (si (si m 133 (mi m 86 70).toNat sort) 134 (mi m 86 70).toNat k) 135 (mi m 86 70).toNat v) 136 (2 * (mi m 86 70)).toNat (if one = 99 then -1 else one))) (by rw [show (if one = 99 then -1 else one) = (-1) from by first | exact if_pos (by omega) | exact if_neg (by omega)]) ?_
      refine j_aload_n rfl rfl ?_
      refine j_getR (q := 136) rfl f_X12_160 rfl (hS.lt (by decide)) (hS.k (by decide) (by decide)) (hS.r (by decide)) ?_
      refine j_iconst rfl ?_
      refine j_aload_n rfl rfl ?_
      refine j_getI rfl f_X12_458 rfl (hS.lt (by decide)) (hS.k (by decide) (by decide)) ?_
      rw [show mi (si (si (si (si m 133 (mi m 86 70).toNat sort) 134 (mi m 86 70).toNat k) 135 (mi m 86 70).toNat v) 136 (2 * (mi m 86 70)).toNat (if one = 99 then -1 else one)) 86 70 = mi m 86 70 from by simp [mi_si, mi_fil, mi_cpr, mi_sl, mi_sr]]
      have u231_2 := hI.s 86 70 (0) 20 (by decide)
      refine j_imul rfl ?_
      refine j_iconst rfl ?_
      refine j_iadd rfl ?_
      refine j_iload rfl rfl ?_
      refine j_bipush rfl (by decide) ?_
      refine j_icmp_ne (tgt := 248) rfl (by decide) (by omega) (by omega) (by omega) (by omega) (fun hb241_2 => ?_) (fun hb241_2 => ?_)
      · skip
        refine j_iload rfl rfl ?_
        refine j_iast (n := 40) rfl (hS.lt (by decide)) (hS.k (by decide) (by decide)) (hS.n (by decide) (by decide)) (by omega) (by omega) (by first | decide | omega) ?_
        refine qJ_mem (m' := (si (si (si (si (si m 133 (mi m 86 70).toNat sort) 134 (mi m 86 70).toNat k) 135 (mi m 86 70).toNat v) 136 (2 * (mi m 86 70)).toNat (if one = 99 then -1 else one)) 136 ((2 * (mi m 86 70)) + 1).toNat (if other = 99 then -1 else other))) (by rw [show (if other = 99 then -1 else other) = other from by first | exact if_pos (by omega) | exact if_neg (by omega)]) ?_
        refine j_aload_n rfl rfl ?_
        refine j_dup rfl (Nat.ne_of_beq_eq_false rfl) ?_
        refine j_getI rfl f_X12_458 rfl (hS.lt (by decide)) (hS.k (by decide) (by decide)) ?_
        rw [show mi (si (si (si (si (si m 133 (mi m 86 70).toNat sort) 134 (mi m 86 70).toNat k) 135 (mi m 86 70).toNat v) 136 (2 * (mi m 86 70)).toNat (if one = 99 then -1 else one)) 136 ((2 * (mi m 86 70)) + 1).toNat (if other = 99 then -1 else other)) 86 70 = mi m 86 70 from by simp [mi_si, mi_fil, mi_cpr, mi_sl, mi_sr]]
        have u253_3 := hI.s 86 70 (0) 20 (by decide)
        refine j_iconst rfl ?_
        refine j_iadd rfl ?_
        refine j_putI rfl f_X12_458 rfl (hS.lt (by decide)) (hS.k (by decide) (by decide)) ?_
        refine j_aload_n rfl rfl ?_
        refine j_getI rfl f_X12_458 rfl (hS.lt (by decide)) (hS.k (by decide) (by decide)) ?_
        have u262_3 := mi_rng (si (si (si (si (si (si m 133 (mi m 86 70).toNat sort) 134 (mi m 86 70).toNat k) 135 (mi m 86 70).toNat v) 136 (2 * (mi m 86 70)).toNat (if one = 99 then -1 else one)) 136 ((2 * (mi m 86 70)) + 1).toNat (if other = 99 then -1 else other)) 86 70 ((mi m 86 70) + 1)) 86 70
        refine j_iconst rfl ?_
        refine j_isub rfl ?_
        refine j_iret rfl rfl ?_ rfl (Nat.le_refl _)
        have e : (mi (si (si (si (si (si (si m 133 (mi m 86 70).toNat sort) 134 (mi m 86 70).toNat k) 135 (mi m 86 70).toNat v) 136 (2 * (mi m 86 70)).toNat (if one = 99 then -1 else one)) 136 ((2 * (mi m 86 70)) + 1).toNat (if other = 99 then -1 else other)) 86 70 ((mi m 86 70) + 1)) 86 70) - 1 = mi m 86 70 := by rw [mi_si_same _ _ _ (by omega) (by omega)]; omega
        rw [e]
        exact hok (by omega)
      · skip
        refine j_iconst rfl ?_
        refine j_goto (tgt := 250) rfl (by decide) ?_
        refine j_iast (n := 40) rfl (hS.lt (by decide)) (hS.k (by decide) (by decide)) (hS.n (by decide) (by decide)) (by omega) (by omega) (by first | decide | omega) ?_
        refine qJ_mem (m' := (si (si (si (si (si m 133 (mi m 86 70).toNat sort) 134 (mi m 86 70).toNat k) 135 (mi m 86 70).toNat v) 136 (2 * (mi m 86 70)).toNat (if one = 99 then -1 else one)) 136 ((2 * (mi m 86 70)) + 1).toNat (if other = 99 then -1 else other))) (by rw [show (if other = 99 then -1 else other) = (-1) from by first | exact if_pos (by omega) | exact if_neg (by omega)]) ?_
        refine j_aload_n rfl rfl ?_
        refine j_dup rfl (Nat.ne_of_beq_eq_false rfl) ?_
        refine j_getI rfl f_X12_458 rfl (hS.lt (by decide)) (hS.k (by decide) (by decide)) ?_
        rw [show mi (si (si (si (si (si m 133 (mi m 86 70).toNat sort) 134 (mi m 86 70).toNat k) 135 (mi m 86 70).toNat v) 136 (2 * (mi m 86 70)).toNat (if one = 99 then -1 else one)) 136 ((2 * (mi m 86 70)) + 1).toNat (if other = 99 then -1 else other)) 86 70 = mi m 86 70 from by simp [mi_si, mi_fil, mi_cpr, mi_sl, mi_sr]]
        have u253_4 := hI.s 86 70 (0) 20 (by decide)
        refine j_iconst rfl ?_
        refine j_iadd rfl ?_
        refine j_putI rfl f_X12_458 rfl (hS.lt (by decide)) (hS.k (by decide) (by decide)) ?_
        refine j_aload_n rfl rfl ?_
        refine j_getI rfl f_X12_458 rfl (hS.lt (by decide)) (hS.k (by decide) (by decide)) ?_
        have u262_4 := mi_rng (si (si (si (si (si (si m 133 (mi m 86 70).toNat sort) 134 (mi m 86 70).toNat k) 135 (mi m 86 70).toNat v) 136 (2 * (mi m 86 70)).toNat (if one = 99 then -1 else one)) 136 ((2 * (mi m 86 70)) + 1).toNat (if other = 99 then -1 else other)) 86 70 ((mi m 86 70) + 1)) 86 70
        refine j_iconst rfl ?_
        refine j_isub rfl ?_
        refine j_iret rfl rfl ?_ rfl (Nat.le_refl _)
        have e : (mi (si (si (si (si (si (si m 133 (mi m 86 70).toNat sort) 134 (mi m 86 70).toNat k) 135 (mi m 86 70).toNat v) 136 (2 * (mi m 86 70)).toNat (if one = 99 then -1 else one)) 136 ((2 * (mi m 86 70)) + 1).toNat (if other = 99 then -1 else other)) 86 70 ((mi m 86 70) + 1)) 86 70) - 1 = mi m 86 70 := by rw [mi_si_same _ _ _ (by omega) (by omega)]; omega
        rw [e]
        exact hok (by omega)
  · skip
    refine j_bipush rfl (by decide) ?_
    refine j_iret rfl rfl ?_ rfl (Nat.le_refl _)
    exact h20 (by omega)

set_option maxRecDepth 20000 in
set_option maxHeartbeats 4000000 in
theorem lp_paper_111 {G : QW} {m : AM} {sort k v on : Int} {Rp : Option Vl → AM → Prop} (hS : St m) (hI : IM m) (hs1 : -2147483648 ≤ sort ∧ sort < 2147483648) (hk1 : -2147483648 ≤ k ∧ k < 2147483648) (hv1 : -2147483648 ≤ v ∧ v < 2147483648) (ho0 : 0 ≤ on) (ho1 : on / 100 ≤ 99) (hneg : ¬ grP m on → Rp (some (vI (-1))) m) (h20 : grP m on → mi m 86 70 = 20 → Rp (some (vI (-3))) m) (hok : grP m on → mi m 86 70 ≠ 20 → Rp (some (vI (mi m 86 70))) (paM m sort k v (on / 100) (on % 100))) : qJ G mX12_paper { frames := 2, cells := 0, slots := 0, locals := 60 * 2 } (qF G Rp 0 0) 111 [(0, vR 86), (1, vI sort), (2, vI k), (3, vI v), (4, vI on)] [] m 0 0 := by
  have hpp := hI.s 86 70 0 20 (by decide)
  refine j_iload rfl rfl ?_
  refine j_bipush rfl (by decide) ?_
  refine j_idivN rfl (by omega) (by omega) (by omega) (by omega) ?_
  refine j_istore rfl (by decide) ?_
  refine j_iload rfl rfl ?_
  refine j_bipush rfl (by decide) ?_
  refine j_iremN rfl (by omega) (by omega) (by omega) (by omega) ?_
  refine j_istore rfl (by decide) ?_
  refine j_iload rfl rfl ?_
  refine j_bipush rfl (by decide) ?_
  refine j_icmp_eq (tgt := 141) rfl (by decide) (by omega) (by omega) (by omega) (by omega) (fun hb129_1 => ?_) (fun hb129_1 => ?_)
  · skip
    refine j_iload rfl rfl ?_
    refine j_bipush rfl (by decide) ?_
    refine j_icmp_eq (tgt := 159) rfl (by decide) (by omega) (by omega) (by omega) (by omega) (fun hb145_1 => ?_) (fun hb145_1 => ?_)
    · skip
      refine j_loc (ls' := [(0, vR 86), (1, vI sort), (2, vI k), (3, vI v), (4, vI on), (6, vI (on / 100)), (7, vI (on % 100))]) rfl ?_
      have hg : grP m on := by unfold grP; omega
      exact lp_paper_159 hS hI hs1 hk1 hv1 (by omega) (by omega) (h20 hg) (hok hg)
    · skip
      refine j_aload_n rfl rfl ?_
      refine j_iload rfl rfl ?_
      refine j_callV (ci := 12) rfl okX12_isPaper c_X12_461 (ct_X12_isPaper hS hI (by omega) (by omega)) rfl rfl (hS.lt (by decide)) (hS.k (by decide) (by decide)) (by decide) rfl (Nat.le_of_ble_eq_true rfl) (by decide) (by decide) ?_
      rintro vq mq ⟨e1, e2⟩
      rw [e1, e2]
      clear e1 e2
      simp only [Option.toList_some, Option.toList_none, List.cons_append, List.nil_append]
      have w1 := hI.s 86 70 (0) 20 (by decide)
      refine j_bif_ne (tgt := 159) rfl (by decide) (fun hb154_1 => ?_) (fun hb154_1 => ?_)
      · skip
        refine j_loc (ls' := [(0, vR 86), (1, vI sort), (2, vI k), (3, vI v), (4, vI on), (6, vI (on / 100)), (7, vI (on % 100))]) rfl ?_
        have hg : grP m on := by unfold grP; omega
        exact lp_paper_159 hS hI hs1 hk1 hv1 (by omega) (by omega) (h20 hg) (hok hg)
      · skip
        refine j_iconst rfl ?_
        refine j_iret rfl rfl ?_ rfl (Nat.le_refl _)
        exact hneg (by unfold grP; omega)
  · skip
    refine j_aload_n rfl rfl ?_
    refine j_iload rfl rfl ?_
    refine j_callV (ci := 12) rfl okX12_isPaper c_X12_461 (ct_X12_isPaper hS hI (by omega) (by omega)) rfl rfl (hS.lt (by decide)) (hS.k (by decide) (by decide)) (by decide) rfl (Nat.le_of_ble_eq_true rfl) (by decide) (by decide) ?_
    rintro vq mq ⟨e1, e2⟩
    rw [e1, e2]
    clear e1 e2
    simp only [Option.toList_some, Option.toList_none, List.cons_append, List.nil_append]
    have w2 := hI.s 86 70 (0) 20 (by decide)
    refine j_bif_eq (tgt := 157) rfl (by decide) (fun hb138_1 => ?_) (fun hb138_1 => ?_)
    · skip
      refine j_iconst rfl ?_
      refine j_iret rfl rfl ?_ rfl (Nat.le_refl _)
      exact hneg (by unfold grP; omega)
    · skip
      refine j_iload rfl rfl ?_
      refine j_bipush rfl (by decide) ?_
      refine j_icmp_eq (tgt := 159) rfl (by decide) (by omega) (by omega) (by omega) (by omega) (fun hb145_2 => ?_) (fun hb145_2 => ?_)
      · skip
        refine j_loc (ls' := [(0, vR 86), (1, vI sort), (2, vI k), (3, vI v), (4, vI on), (6, vI (on / 100)), (7, vI (on % 100))]) rfl ?_
        have hg : grP m on := by unfold grP; omega
        exact lp_paper_159 hS hI hs1 hk1 hv1 (by omega) (by omega) (h20 hg) (hok hg)
      · skip
        refine j_aload_n rfl rfl ?_
        refine j_iload rfl rfl ?_
        refine j_callV (ci := 12) rfl okX12_isPaper c_X12_461 (ct_X12_isPaper hS hI (by omega) (by omega)) rfl rfl (hS.lt (by decide)) (hS.k (by decide) (by decide)) (by decide) rfl (Nat.le_of_ble_eq_true rfl) (by decide) (by decide) ?_
        rintro vq mq ⟨e1, e2⟩
        rw [e1, e2]
        clear e1 e2
        simp only [Option.toList_some, Option.toList_none, List.cons_append, List.nil_append]
        have w3 := hI.s 86 70 (0) 20 (by decide)
        refine j_bif_ne (tgt := 159) rfl (by decide) (fun hb154_2 => ?_) (fun hb154_2 => ?_)
        · skip
          refine j_loc (ls' := [(0, vR 86), (1, vI sort), (2, vI k), (3, vI v), (4, vI on), (6, vI (on / 100)), (7, vI (on % 100))]) rfl ?_
          have hg : grP m on := by unfold grP; omega
          exact lp_paper_159 hS hI hs1 hk1 hv1 (by omega) (by omega) (h20 hg) (hok hg)
        · skip
          refine j_iconst rfl ?_
          refine j_iret rfl rfl ?_ rfl (Nat.le_refl _)
          exact hneg (by unfold grP; omega)

set_option maxRecDepth 20000 in
set_option maxHeartbeats 4000000 in
theorem lp_paper_48 {G : QW} {m : AM} {sort k v on x : Int} {Rp : Option Vl → AM → Prop} (hS : St m) (hI : IM m) (hs1 : -2147483648 ≤ sort ∧ sort < 2147483648) (hk1 : -2147483648 ≤ k ∧ k < 2147483648) (hv1 : -2147483648 ≤ v ∧ v < 2147483648) (ho0 : 0 ≤ on) (ho1 : on / 100 ≤ 99) (hso : 0 ≤ sort ∧ sort ≤ 1) (hx : (x = 1 ∧ 10 ≤ k ∧ k - 10 < mi m 86 1) ∨ (x = 0 ∧ ¬ (10 ≤ k ∧ k - 10 < mi m 86 1))) (hneg : ¬ (clP m sort k v ∧ grP m on) → Rp (some (vI (-1))) m) (h20 : (clP m sort k v ∧ grP m on) → mi m 86 70 = 20 → Rp (some (vI (-3))) m) (hok : (clP m sort k v ∧ grP m on) → mi m 86 70 ≠ 20 → Rp (some (vI (mi m 86 70))) (paM m sort k v (on / 100) (on % 100))) : qJ G mX12_paper { frames := 2, cells := 0, slots := 0, locals := 60 * 2 } (qF G Rp 0 0) 48 [(0, vR 86), (1, vI sort), (2, vI k), (3, vI v), (4, vI on)] [vI x] m 0 0 := by
  refine j_istore rfl (by decide) ?_
  refine j_iload_n rfl rfl ?_
  refine j_if_ne (tgt := 82) rfl (by decide) (by omega) (by omega) (fun hb51_1 => ?_) (fun hb51_1 => ?_)
  · skip
    refine j_iload rfl rfl ?_
    refine j_if_eq (tgt := 109) rfl (by decide) (by omega) (by omega) (fun hb84_1 => ?_) (fun hb84_1 => ?_)
    · skip
      refine j_iconst rfl ?_
      refine j_iret rfl rfl ?_ rfl (Nat.le_refl _)
      refine hneg (fun z => ?_)
      have z1 := z.1
      unfold clP at z1
      first | (rw [if_pos (by omega)] at z1; omega) | (rw [if_neg (by omega)] at z1; omega)
    · skip
      refine j_iload_n rfl rfl ?_
      refine j_if_lt (tgt := 109) rfl (by decide) (by omega) (by omega) (fun hb88_1 => ?_) (fun hb88_1 => ?_)
      · skip
        refine j_iconst rfl ?_
        refine j_iret rfl rfl ?_ rfl (Nat.le_refl _)
        refine hneg (fun z => ?_)
        have z1 := z.1
        unfold clP at z1
        first | (rw [if_pos (by omega)] at z1; omega) | (rw [if_neg (by omega)] at z1; omega)
      · skip
        refine j_aload_n rfl rfl ?_
        refine j_iload_n rfl rfl ?_
        refine j_bipush rfl (by decide) ?_
        refine j_idivN rfl (by omega) (by omega) (by omega) (by omega) ?_
        refine j_callV (ci := 12) rfl okX12_isFlight c_X12_270 (ct_X12_isFlight hS hI (by omega) (by omega)) rfl rfl (hS.lt (by decide)) (hS.k (by decide) (by decide)) (by decide) rfl (Nat.le_of_ble_eq_true rfl) (by decide) (by decide) ?_
        rintro vq mq ⟨e1, e2⟩
        rw [e1, e2]
        clear e1 e2
        simp only [Option.toList_some, Option.toList_none, List.cons_append, List.nil_append]
        have w1 := hI.s 86 21 (0) 8 (by decide)
        refine j_bif_eq (tgt := 109) rfl (by decide) (fun hb99_1 => ?_) (fun hb99_1 => ?_)
        · skip
          refine j_iconst rfl ?_
          refine j_iret rfl rfl ?_ rfl (Nat.le_refl _)
          refine hneg (fun z => ?_)
          have z1 := z.1
          unfold clP at z1
          first | (rw [if_pos (by omega)] at z1; omega) | (rw [if_neg (by omega)] at z1; omega)
        · skip
          refine j_iload_n rfl rfl ?_
          refine j_bipush rfl (by decide) ?_
          refine j_iremN rfl (by omega) (by omega) (by omega) (by omega) ?_
          refine j_if_ne (tgt := 111) rfl (by decide) (by omega) (by omega) (fun hb106_1 => ?_) (fun hb106_1 => ?_)
          · skip
            refine j_loc (ls' := [(0, vR 86), (1, vI sort), (2, vI k), (3, vI v), (4, vI on)]) rfl ?_
            have hc : clP m sort k v := by unfold clP; first | (rw [if_pos (by omega)]; omega) | (rw [if_neg (by omega)]; omega)
            exact lp_paper_111 hS hI hs1 hk1 hv1 ho0 ho1 (fun q => hneg (fun z => q z.2)) (fun q => h20 ⟨hc, q⟩) (fun q => hok ⟨hc, q⟩)
          · skip
            refine j_iconst rfl ?_
            refine j_iret rfl rfl ?_ rfl (Nat.le_refl _)
            refine hneg (fun z => ?_)
            have z1 := z.1
            unfold clP at z1
            first | (rw [if_pos (by omega)] at z1; omega) | (rw [if_neg (by omega)] at z1; omega)
  · skip
    refine j_iload rfl rfl ?_
    refine j_if_ne (tgt := 111) rfl (by decide) (by omega) (by omega) (fun hb56_1 => ?_) (fun hb56_1 => ?_)
    · skip
      refine j_loc (ls' := [(0, vR 86), (1, vI sort), (2, vI k), (3, vI v), (4, vI on)]) rfl ?_
      have hc : clP m sort k v := by unfold clP; first | (rw [if_pos (by omega)]; omega) | (rw [if_neg (by omega)]; omega)
      exact lp_paper_111 hS hI hs1 hk1 hv1 ho0 ho1 (fun q => hneg (fun z => q z.2)) (fun q => h20 ⟨hc, q⟩) (fun q => hok ⟨hc, q⟩)
    · skip
      refine j_iload_n rfl rfl ?_
      refine j_iconst rfl ?_
      refine j_iconst rfl ?_
      refine j_callS (As := [_, _, _]) rfl okX12_in c_X12_194 (ct_X12_in (by omega) (by omega) (by omega) (by omega) (by omega) (by omega)) rfl rfl (Nat.le_of_ble_eq_true rfl) (by decide) (by decide) ?_
      rintro vq mq ⟨e1, e2⟩
      rw [e1, e2]
      clear e1 e2
      simp only [Option.toList_some, Option.toList_none, List.cons_append, List.nil_append]
      refine j_bif_eq (tgt := 109) rfl (by decide) (fun hb65_1 => ?_) (fun hb65_1 => ?_)
      · skip
        refine j_iconst rfl ?_
        refine j_iret rfl rfl ?_ rfl (Nat.le_refl _)
        refine hneg (fun z => ?_)
        have z1 := z.1
        unfold clP at z1
        first | (rw [if_pos (by omega)] at z1; omega) | (rw [if_neg (by omega)] at z1; omega)
      · skip
        refine j_iload_n rfl rfl ?_
        refine j_iconst rfl ?_
        refine j_ldcw (v := 99999) rfl k_X12_273 ?_
        refine j_callS (As := [_, _, _]) rfl okX12_in c_X12_194 (ct_X12_in (by omega) (by omega) (by omega) (by omega) (by omega) (by omega)) rfl rfl (Nat.le_of_ble_eq_true rfl) (by decide) (by decide) ?_
        rintro vq mq ⟨e1, e2⟩
        rw [e1, e2]
        clear e1 e2
        simp only [Option.toList_some, Option.toList_none, List.cons_append, List.nil_append]
        refine j_bif_ne (tgt := 111) rfl (by decide) (fun hb76_1 => ?_) (fun hb76_1 => ?_)
        · skip
          refine j_loc (ls' := [(0, vR 86), (1, vI sort), (2, vI k), (3, vI v), (4, vI on)]) rfl ?_
          have hc : clP m sort k v := by unfold clP; first | (rw [if_pos (by omega)]; omega) | (rw [if_neg (by omega)]; omega)
          exact lp_paper_111 hS hI hs1 hk1 hv1 ho0 ho1 (fun q => hneg (fun z => q z.2)) (fun q => h20 ⟨hc, q⟩) (fun q => hok ⟨hc, q⟩)
        · skip
          refine j_goto (tgt := 109) rfl (by decide) ?_
          refine j_iconst rfl ?_
          refine j_iret rfl rfl ?_ rfl (Nat.le_refl _)
          refine hneg (fun z => ?_)
          have z1 := z.1
          unfold clP at z1
          first | (rw [if_pos (by omega)] at z1; omega) | (rw [if_neg (by omega)] at z1; omega)

/-- paper() of the reference -/
def papR (m : AM) (sort k v on : Int) (hd : Decidable ((0 ≤ sort ∧ sort ≤ 1) ∧ (0 ≤ on ∧ on / 100 ≤ 99) ∧ clP m sort k v ∧ grP m on)) : Int × AM :=
  if (0 ≤ sort ∧ sort ≤ 1) ∧ (0 ≤ on ∧ on / 100 ≤ 99) ∧ clP m sort k v ∧ grP m on then (if mi m 86 70 = 20 then (-3, m) else (mi m 86 70, paM m sort k v (on / 100) (on % 100))) else (-1, m)

set_option maxRecDepth 20000 in
set_option maxHeartbeats 4000000 in
theorem ct_X12_paper {G : QW} {m : AM} {sort k v on : Int} (hd : Decidable ((0 ≤ sort ∧ sort ≤ 1) ∧ (0 ≤ on ∧ on / 100 ≤ 99) ∧ clP m sort k v ∧ grP m on)) (hS : St m) (hI : IM m) (hsort1 : -2147483648 ≤ sort) (hsort2 : sort < 2147483648) (hk1 : -2147483648 ≤ k) (hk2 : k < 2147483648) (hv1 : -2147483648 ≤ v) (hv2 : v < 2147483648) (hon1 : -2147483648 ≤ on) (hon2 : on < 2147483648) : qM G mX12_paper 2 0 0 [vR 86, vI sort, vI k, vI v, vI on] m (fun r m' => r = some (vI (papR m sort k v on hd).1) ∧ m' = (papR m sort k v on hd).2) := by
  refine qM.intro okX12_paper (Nat.le_of_ble_eq_true rfl) ?_
  refine j_iload_n rfl rfl ?_
  refine j_iconst rfl ?_
  refine j_iconst rfl ?_
  refine j_callS (As := [_, _, _]) rfl okX12_in c_X12_194 (ct_X12_in (by omega) (by omega) (by omega) (by omega) (by omega) (by omega)) rfl rfl (Nat.le_of_ble_eq_true rfl) (by decide) (by decide) ?_
  rintro vq mq ⟨e1, e2⟩
  rw [e1, e2]
  clear e1 e2
  simp only [Option.toList_some, Option.toList_none, List.cons_append, List.nil_append]
  refine j_bif_eq (tgt := 24) rfl (by decide) (fun hb6_1 => ?_) (fun hb6_1 => ?_)
  · skip
    refine j_iconst rfl ?_
    refine j_iret rfl rfl ?_ rfl (Nat.le_refl _)
    exact ⟨by unfold papR; rw [if_neg (fun z => by obtain ⟨z1, z2, -⟩ := z; omega)], by unfold papR; rw [if_neg (fun z => by obtain ⟨z1, z2, -⟩ := z; omega)]⟩
  · skip
    refine j_iload rfl rfl ?_
    refine j_if_lt (tgt := 24) rfl (by decide) (by omega) (by omega) (fun hb11_1 => ?_) (fun hb11_1 => ?_)
    · skip
      refine j_iconst rfl ?_
      refine j_iret rfl rfl ?_ rfl (Nat.le_refl _)
      exact ⟨by unfold papR; rw [if_neg (fun z => by obtain ⟨z1, z2, -⟩ := z; omega)], by unfold papR; rw [if_neg (fun z => by obtain ⟨z1, z2, -⟩ := z; omega)]⟩
    · skip
      refine j_iload rfl rfl ?_
      refine j_bipush rfl (by decide) ?_
      refine j_idivN rfl (by omega) (by omega) (by omega) (by omega) ?_
      refine j_bipush rfl (by decide) ?_
      refine j_icmp_le (tgt := 26) rfl (by decide) (by omega) (by omega) (by omega) (by omega) (fun hb21_1 => ?_) (fun hb21_1 => ?_)
      · skip
        refine j_iload_n rfl rfl ?_
        refine j_bipush rfl (by decide) ?_
        refine j_icmp_lt (tgt := 47) rfl (by decide) (by omega) (by omega) (by omega) (by omega) (fun hb29_1 => ?_) (fun hb29_1 => ?_)
        · skip
          refine j_iconst rfl ?_
          refine lp_paper_48 hS hI ⟨hsort1, hsort2⟩ ⟨hk1, hk2⟩ ⟨hv1, hv2⟩ (by omega) (by omega) (by omega) (by omega) (fun q => ?_) (fun q q2 => ?_) (fun q q2 => ?_)
          · exact ⟨by unfold papR; rw [if_neg (fun z => q z.2.2)], by unfold papR; rw [if_neg (fun z => q z.2.2)]⟩
          · exact ⟨by unfold papR; rw [if_pos ⟨by omega, by omega, q⟩, if_pos q2], by unfold papR; rw [if_pos ⟨by omega, by omega, q⟩, if_pos q2]⟩
          · exact ⟨by unfold papR; rw [if_pos ⟨by omega, by omega, q⟩, if_neg q2], by unfold papR; rw [if_pos ⟨by omega, by omega, q⟩, if_neg q2]⟩
        · skip
          refine j_aload_n rfl rfl ?_
          refine j_iload_n rfl rfl ?_
          refine j_bipush rfl (by decide) ?_
          refine j_isub rfl ?_
          refine j_callV (ci := 12) rfl okX12_isBox c_X12_198 (ct_X12_isBox hS hI (by omega) (by omega)) rfl rfl (hS.lt (by decide)) (hS.k (by decide) (by decide)) (by decide) rfl (Nat.le_of_ble_eq_true rfl) (by decide) (by decide) ?_
          rintro vq mq ⟨e1, e2⟩
          rw [e1, e2]
          clear e1 e2
          simp only [Option.toList_some, Option.toList_none, List.cons_append, List.nil_append]
          have w1 := hI.s 86 1 (0) 6 (by decide)
          refine j_bif_eq (tgt := 47) rfl (by decide) (fun hb40_1 => ?_) (fun hb40_1 => ?_)
          · skip
            refine j_iconst rfl ?_
            refine lp_paper_48 hS hI ⟨hsort1, hsort2⟩ ⟨hk1, hk2⟩ ⟨hv1, hv2⟩ (by omega) (by omega) (by omega) (by omega) (fun q => ?_) (fun q q2 => ?_) (fun q q2 => ?_)
            · exact ⟨by unfold papR; rw [if_neg (fun z => q z.2.2)], by unfold papR; rw [if_neg (fun z => q z.2.2)]⟩
            · exact ⟨by unfold papR; rw [if_pos ⟨by omega, by omega, q⟩, if_pos q2], by unfold papR; rw [if_pos ⟨by omega, by omega, q⟩, if_pos q2]⟩
            · exact ⟨by unfold papR; rw [if_pos ⟨by omega, by omega, q⟩, if_neg q2], by unfold papR; rw [if_pos ⟨by omega, by omega, q⟩, if_neg q2]⟩
          · skip
            refine j_iconst rfl ?_
            refine j_goto (tgt := 48) rfl (by decide) ?_
            refine lp_paper_48 hS hI ⟨hsort1, hsort2⟩ ⟨hk1, hk2⟩ ⟨hv1, hv2⟩ (by omega) (by omega) (by omega) (by omega) (fun q => ?_) (fun q q2 => ?_) (fun q q2 => ?_)
            · exact ⟨by unfold papR; rw [if_neg (fun z => q z.2.2)], by unfold papR; rw [if_neg (fun z => q z.2.2)]⟩
            · exact ⟨by unfold papR; rw [if_pos ⟨by omega, by omega, q⟩, if_pos q2], by unfold papR; rw [if_pos ⟨by omega, by omega, q⟩, if_pos q2]⟩
            · exact ⟨by unfold papR; rw [if_pos ⟨by omega, by omega, q⟩, if_neg q2], by unfold papR; rw [if_pos ⟨by omega, by omega, q⟩, if_neg q2]⟩
      · skip
        refine j_iconst rfl ?_
        refine j_iret rfl rfl ?_ rfl (Nat.le_refl _)
        exact ⟨by unfold papR; rw [if_neg (fun z => by obtain ⟨z1, z2, -⟩ := z; omega)], by unfold papR; rw [if_neg (fun z => by obtain ⟨z1, z2, -⟩ := z; omega)]⟩


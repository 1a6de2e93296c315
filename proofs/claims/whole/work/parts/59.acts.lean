/-- a body is noted -/
def ranM (m : AM) (c : Int) : AM := si (if mi m 86 76 < 24 then si m 138 (mi m 86 76).toNat c else m) 86 76 (mi m 86 76 + 1)
def ranL : List Int → AM → AM
  | [], m => m
  | c :: l, m => ranL l (ranM m c)
theorem ranL_app (l l2 : List Int) : ∀ m, ranL (l ++ l2) m = ranL l2 (ranL l m) := by
  induction l with
  | nil => intro m; rfl
  | cons c l ih => intro m; exact ih _
def AT (m : AM) (n : Nat) : Prop := St m ∧ 0 ≤ mi m 86 76 ∧ mi m 86 76 ≤ n
theorem AT.one {m : AM} {n : Nat} (h : AT m n) (hn : n ≤ 1000) (c : Int) : AT (ranM m c) (n + 1) := by
  have e : mi (ranM m c) 86 76 = mi m 86 76 + 1 := mi_si_same _ _ _ (by have := h.2.1; omega) (by have := h.2.2; omega)
  refine ⟨?_, by rw [e]; have := h.2.1; omega, by rw [e]; have := h.2.2; omega⟩
  unfold ranM
  show St (if mi m 86 76 < 24 then si m 138 (mi m 86 76).toNat c else m)
  split
  · exact h.1
  · exact h.1
theorem AT.list {n : Nat} : ∀ (l : List Int) {m : AM} {n : Nat}, AT m n → n + l.length ≤ 1000 → AT (ranL l m) (n + l.length) := by
  intro l
  induction l with
  | nil => intro m n h _; exact h
  | cons c l ih =>
    intro m n h hl
    have hl2 : n + (l.length + 1) ≤ 1000 := hl
    have := ih (h.one (by omega) c) (by omega)
    rw [show n + 1 + l.length = n + (l.length + 1) by omega] at this
    exact this
theorem AT.up {m : AM} {n n2 : Nat} (h : AT m n) (hn : n ≤ n2) : AT m n2 := ⟨h.1, h.2.1, by have := h.2.2; omega⟩
theorem ranM_mi (m : AM) (c : Int) {o j : Nat} (h : o ≠ 138) (h2 : o ≠ 86) : mi (ranM m c) o j = mi m o j := by
  unfold ranM
  rw [mi_si_ne _ _ (fun q => h2 q.1)]
  split
  · exact mi_si_ne _ _ (fun q => h q.1)
  · rfl
theorem ranL_mi {o j : Nat} (h : o ≠ 138) (h2 : o ≠ 86) : ∀ (l : List Int) (m : AM), mi (ranL l m) o j = mi m o j := by
  intro l
  induction l with
  | nil => intro m; rfl
  | cons c l ih => intro m; exact (ih _).trans (ranM_mi m c h h2)
/-! what the acts give, by the kind; and the bodies that run -/
def runV (kd b x : Int) : Int := if kd = 6 then ((x + b) - 1) * 5 else if kd = 3 then (x + b) - 1 else x + b
def runT (kd : Int) : List Int := if kd = 6 then [70, 40, 1] else if kd = 3 then [40, 1] else [1]
def bckV (kd b x : Int) : Int := if kd = 2 then (z_ixor x b) * 3 else if kd = 5 then -(z_ixor x b) else z_ixor x b
def bckT (kd : Int) : List Int := if kd = 2 then [30, 11] else if kd = 5 then [60, 11] else [11]
def senV (kd b x ln : Int) : Int := if kd = 1 then ((runV kd b x) * 2) + ln else if kd = 6 then ((runV kd b x) * 2) - (bckV kd b 2) else (runV kd b x) * 2
def senT (kd : Int) : List Int := if kd = 1 then [20] ++ ([10] ++ runT kd) else if kd = 6 then ([71] ++ ([10] ++ runT kd)) ++ bckT kd else [10] ++ runT kd
def ptlV (kd b x ln : Int) : Int := (senV kd b x ln) - (bckV kd b 1)
def ptlT (kd : Int) : List Int := ([2] ++ senT kd) ++ bckT kd
def telV (kd b x ln : Int) : Int := if kd = 5 then z_ixor (ptlV kd b (x + 1) ln) 6 else if kd = 4 then z_ixor (ptlV kd b x ln) 6 else ptlV kd b x ln
def telT (kd : Int) : List Int := if kd = 5 then [61] ++ ([50] ++ ptlT kd) else if kd = 4 then [50] ++ ptlT kd else ptlT kd
theorem runT_len (kd : Int) : (runT kd).length ≤ 3 := by unfold runT; split; decide; split <;> decide
theorem bckT_len (kd : Int) : (bckT kd).length ≤ 2 := by unfold bckT; split; decide; split <;> decide
theorem senT_len (kd : Int) : (senT kd).length ≤ 7 := by
  have a := runT_len kd
  have b := bckT_len kd
  unfold senT
  split
  · simp only [List.length_append, List.length_cons, List.length_nil]; omega
  · split
    · simp only [List.length_append, List.length_cons, List.length_nil]; omega
    · simp only [List.length_append, List.length_cons, List.length_nil]; omega
theorem ptlT_len (kd : Int) : (ptlT kd).length ≤ 10 := by
  have a := senT_len kd
  have b := bckT_len kd
  unfold ptlT
  simp only [List.length_append, List.length_cons, List.length_nil]; omega

theorem ct_X12_ran {G : QW} {m : AM} {c : Int} {n : Nat} (h : AT m n) (hn : n ≤ 500) : qM G mX12_ran 0 0 0 [vR 86, vI c] m (fun r m' => r = none ∧ m' = ranM m c) := by
  refine qM.intro okX12_ran (Nat.le_of_ble_eq_true rfl) ?_
  have hS := h.1
  have ht := h.2
  refine j_aload_n rfl rfl ?_
  refine j_getI rfl f_X12_478 rfl (hS.lt (by decide)) (hS.k (by decide) (by decide)) ?_
  have u1_1 := mi_rng m 86 76
  refine j_bipush rfl (by decide) ?_
  refine j_icmp_ge (tgt := 19) rfl (by decide) (by omega) (by omega) (by omega) (by omega) (fun hb6_1 => ?_) (fun hb6_1 => ?_)
  · skip
    have ex : mi m 86 76 = mi m 86 76 := by first | rfl | exact mi_si_ne _ _ (fun q => absurd q.1 (by decide))
    refine j_aload_n rfl rfl ?_
    refine j_dup rfl (Nat.ne_of_beq_eq_false rfl) ?_
    refine j_getI rfl f_X12_478 rfl (hS.lt (by decide)) (hS.k (by decide) (by decide)) ?_
    have u21_1 := mi_rng m 86 76
    refine j_iconst rfl ?_
    refine j_iadd rfl ?_
    refine j_putI rfl f_X12_478 rfl (hS.lt (by decide)) (hS.k (by decide) (by decide)) ?_
    refine j_vret rfl rfl ?_ rfl (Nat.le_refl _)
    refine ⟨rfl, ?_⟩
    unfold ranM
    first | rw [if_pos (by omega)] | rw [if_neg (by omega)]
  · skip
    refine j_aload_n rfl rfl ?_
    refine j_getR (q := 138) rfl f_X12_166 rfl (hS.lt (by decide)) (hS.k (by decide) (by decide)) (hS.r (by decide)) ?_
    refine j_aload_n rfl rfl ?_
    refine j_getI rfl f_X12_478 rfl (hS.lt (by decide)) (hS.k (by decide) (by decide)) ?_
    have u14_1 := mi_rng m 86 76
    refine j_iload_n rfl rfl ?_
    refine j_iast (n := 24) rfl (hS.lt (by decide)) (hS.k (by decide) (by decide)) (hS.n (by decide) (by decide)) (by omega) (by omega) (by first | decide | omega) ?_
    have ex : mi (si m 138 (mi m 86 76).toNat c) 86 76 = mi m 86 76 := by first | rfl | exact mi_si_ne _ _ (fun q => absurd q.1 (by decide))
    refine j_aload_n rfl rfl ?_
    refine j_dup rfl (Nat.ne_of_beq_eq_false rfl) ?_
    refine j_getI rfl f_X12_478 rfl (hS.lt (by decide)) (hS.k (by decide) (by decide)) ?_
    rw [show mi (si m 138 (mi m 86 76).toNat c) 86 76 = mi m 86 76 from by simp [mi_si, mi_fil, mi_cpr, mi_sl, mi_sr]]
    have u21_2 := mi_rng m 86 76
    refine j_iconst rfl ?_
    refine j_iadd rfl ?_
    refine j_putI rfl f_X12_478 rfl (hS.lt (by decide)) (hS.k (by decide) (by decide)) ?_
    refine j_vret rfl rfl ?_ rfl (Nat.le_refl _)
    refine ⟨rfl, ?_⟩
    unfold ranM
    first | rw [if_pos (by omega)] | rw [if_neg (by omega)]

set_option maxRecDepth 20000 in
theorem ct_X12_plainRuns {G : QW} {m : AM} {b x : Int} {n : Nat} (h : AT m n) (hn : n ≤ 70) (hb0 : 0 ≤ b) (hb5 : b ≤ 5) : qM G mX12_plainRuns 1 0 0 [vR 86, vI b, vI x] m (fun r m' => r = some (vI (x + b)) ∧ m' = ranL ([1]) m) := by
  refine qM.intro okX12_plainRuns (Nat.le_of_ble_eq_true rfl) ?_
  have l1 := runT_len (mi m 87 b.toNat)
  have l2 := bckT_len (mi m 87 b.toNat)
  have l3 := senT_len (mi m 87 b.toNat)
  have l4 := ptlT_len (mi m 87 b.toNat)
  refine j_aload_n rfl rfl ?_
  refine j_iconst rfl ?_
  refine j_callV (ci := 12) rfl okX12_ran c_X12_481 (ct_X12_ran h (by first | omega | (simp only [List.length_append, List.length_cons, List.length_nil]; omega))) rfl rfl (h.1.lt (by decide)) (h.1.k (by decide) (by decide)) (by decide) rfl (Nat.le_of_ble_eq_true rfl) (by decide) (by decide) ?_
  rintro vq mq ⟨e1, e2⟩
  rw [e1, show mq = ranL [1] m from e2]
  clear e1 e2
  simp only [Option.toList_some, Option.toList_none, List.nil_append]
  refine j_iload_n rfl rfl ?_
  refine j_iload_n rfl rfl ?_
  refine j_iadd rfl ?_
  refine j_iret rfl rfl ?_ rfl (Nat.le_refl _)
  refine ⟨?_, ?_⟩
  · first | rfl | (refine congrArg some (congrArg vI ?_); unfold ptlV; first | (rw [if_pos (by omega)] <;> rfl) | (rw [if_neg (by omega), if_pos (by omega)] <;> rfl) | (rw [if_neg (by omega), if_neg (by omega)] <;> rfl))
  · first | rfl | (unfold ptlT; first | (rw [if_pos (by omega)] <;> rfl) | (rw [if_neg (by omega), if_pos (by omega)] <;> rfl) | (rw [if_neg (by omega), if_neg (by omega)] <;> rfl))

set_option maxRecDepth 20000 in
theorem ct_X12_feelingRuns {G : QW} {m : AM} {b x : Int} {n : Nat} (h : AT m n) (hn : n ≤ 60) (hb0 : 0 ≤ b) (hb5 : b ≤ 5) : qM G mX12_feelingRuns 2 0 0 [vR 86, vI b, vI x] m (fun r m' => r = some (vI ((x + b) - 1)) ∧ m' = ranL ([40, 1]) m) := by
  refine qM.intro okX12_feelingRuns (Nat.le_of_ble_eq_true rfl) ?_
  have l1 := runT_len (mi m 87 b.toNat)
  have l2 := bckT_len (mi m 87 b.toNat)
  have l3 := senT_len (mi m 87 b.toNat)
  have l4 := ptlT_len (mi m 87 b.toNat)
  refine j_aload_n rfl rfl ?_
  refine j_bipush rfl (by decide) ?_
  refine j_callV (ci := 12) rfl okX12_ran c_X12_481 (ct_X12_ran h (by first | omega | (simp only [List.length_append, List.length_cons, List.length_nil]; omega))) rfl rfl (h.1.lt (by decide)) (h.1.k (by decide) (by decide)) (by decide) rfl (Nat.le_of_ble_eq_true rfl) (by decide) (by decide) ?_
  rintro vq mq ⟨e1, e2⟩
  rw [e1, show mq = ranL [40] m from e2]
  clear e1 e2
  simp only [Option.toList_some, Option.toList_none, List.nil_append]
  refine j_aload_n rfl rfl ?_
  refine j_iload_n rfl rfl ?_
  refine j_iload_n rfl rfl ?_
  refine j_callV (ci := 12) rfl okX12_plainRuns c_X12_484 (ct_X12_plainRuns (AT.list (n := n) ([40]) h (by first | omega | (simp only [List.length_append, List.length_cons, List.length_nil]; omega))) (by first | omega | (simp only [List.length_append, List.length_cons, List.length_nil]; omega)) hb0 hb5) rfl rfl (((AT.list (n := n) ([40]) h (by first | omega | (simp only [List.length_append, List.length_cons, List.length_nil]; omega)))).1.lt (by decide)) (((AT.list (n := n) ([40]) h (by first | omega | (simp only [List.length_append, List.length_cons, List.length_nil]; omega)))).1.k (by decide) (by decide)) (by decide) rfl (Nat.le_of_ble_eq_true rfl) (by decide) (by decide) ?_
  rintro vq mq ⟨e1, e2⟩
  try simp only [ranL_mi (o := 87) (by decide) (by decide), ranL_mi (o := 91) (by decide) (by decide)] at e1 e2
  rw [e1, show mq = ranL ([40] ++ [1]) m from e2.trans (ranL_app ([40]) ([1]) m).symm]
  clear e1 e2
  rw [Option.toList_some, List.singleton_append]
  refine j_iconst rfl ?_
  refine j_isub rfl ?_
  refine j_iret rfl rfl ?_ rfl (Nat.le_refl _)
  refine ⟨?_, ?_⟩
  · first | rfl | (refine congrArg some (congrArg vI ?_); unfold ptlV; first | (rw [if_pos (by omega)] <;> rfl) | (rw [if_neg (by omega), if_pos (by omega)] <;> rfl) | (rw [if_neg (by omega), if_neg (by omega)] <;> rfl))
  · first | rfl | (unfold ptlT; first | (rw [if_pos (by omega)] <;> rfl) | (rw [if_neg (by omega), if_pos (by omega)] <;> rfl) | (rw [if_neg (by omega), if_neg (by omega)] <;> rfl))

set_option maxRecDepth 20000 in
theorem ct_X12_runs {G : QW} {m : AM} {b x : Int} {n : Nat} (h : AT m n) (hn : n ≤ 50) (hb0 : 0 ≤ b) (hb5 : b ≤ 5) : qM G mX12_runs 3 0 0 [vR 86, vI b, vI x] m (fun r m' => r = some (vI (runV (mi m 87 b.toNat) b x)) ∧ m' = ranL (runT (mi m 87 b.toNat)) m) := by
  refine qM.intro okX12_runs (Nat.le_of_ble_eq_true rfl) ?_
  have l1 := runT_len (mi m 87 b.toNat)
  have l2 := bckT_len (mi m 87 b.toNat)
  have l3 := senT_len (mi m 87 b.toNat)
  have l4 := ptlT_len (mi m 87 b.toNat)
  refine j_aload_n rfl rfl ?_
  refine j_getR (q := 87) rfl f_X12_7 rfl (h.1.lt (by decide)) (h.1.k (by decide) (by decide)) (h.1.r (by decide)) ?_
  refine j_iload_n rfl rfl ?_
  refine j_iald (n := 6) rfl (h.1.lt (by decide)) (h.1.k (by decide) (by decide)) (h.1.n (by decide) (by decide)) (by omega) (by omega) (by decide) ?_
  have u5_1 := mi_rng m 87 b.toNat
  refine j_bipush rfl (by decide) ?_
  refine j_icmp_ne (tgt := 26) rfl (by decide) (by omega) (by omega) (by omega) (by omega) (fun hb8_1 => ?_) (fun hb8_1 => ?_)
  · skip
    refine j_aload_n rfl rfl ?_
    refine j_getR (q := 87) rfl f_X12_7 rfl (h.1.lt (by decide)) (h.1.k (by decide) (by decide)) (h.1.r (by decide)) ?_
    refine j_iload_n rfl rfl ?_
    refine j_iald (n := 6) rfl (h.1.lt (by decide)) (h.1.k (by decide) (by decide)) (h.1.n (by decide) (by decide)) (by omega) (by omega) (by decide) ?_
    have u31_1 := mi_rng m 87 b.toNat
    refine j_iconst rfl ?_
    refine j_icmp_ne (tgt := 45) rfl (by decide) (by omega) (by omega) (by omega) (by omega) (fun hb33_1 => ?_) (fun hb33_1 => ?_)
    · skip
      refine j_aload_n rfl rfl ?_
      refine j_iload_n rfl rfl ?_
      refine j_iload_n rfl rfl ?_
      refine j_callV (ci := 12) rfl okX12_plainRuns c_X12_484 (ct_X12_plainRuns h (by first | omega | (simp only [List.length_append, List.length_cons, List.length_nil]; omega)) hb0 hb5) rfl rfl (h.1.lt (by decide)) (h.1.k (by decide) (by decide)) (by decide) rfl (Nat.le_of_ble_eq_true rfl) (by decide) (by decide) ?_
      rintro vq mq ⟨e1, e2⟩
      rw [e1, show mq = ranL ([1]) m from e2]
      clear e1 e2
      rw [Option.toList_some, List.singleton_append]
      refine j_iret rfl rfl ?_ rfl (Nat.le_refl _)
      refine ⟨?_, ?_⟩
      · first | rfl | (refine congrArg some (congrArg vI ?_); unfold runV; first | (rw [if_pos (by omega)] <;> rfl) | (rw [if_neg (by omega), if_pos (by omega)] <;> rfl) | (rw [if_neg (by omega), if_neg (by omega)] <;> rfl))
      · first | rfl | (unfold runT; first | (rw [if_pos (by omega)] <;> rfl) | (rw [if_neg (by omega), if_pos (by omega)] <;> rfl) | (rw [if_neg (by omega), if_neg (by omega)] <;> rfl))
    · skip
      refine j_aload_n rfl rfl ?_
      refine j_iload_n rfl rfl ?_
      refine j_iload_n rfl rfl ?_
      refine j_callV (ci := 12) rfl okX12_feelingRuns c_X12_487 (ct_X12_feelingRuns h (by first | omega | (simp only [List.length_append, List.length_cons, List.length_nil]; omega)) hb0 hb5) rfl rfl (h.1.lt (by decide)) (h.1.k (by decide) (by decide)) (by decide) rfl (Nat.le_of_ble_eq_true rfl) (by decide) (by decide) ?_
      rintro vq mq ⟨e1, e2⟩
      rw [e1, show mq = ranL ([40, 1]) m from e2]
      clear e1 e2
      rw [Option.toList_some, List.singleton_append]
      refine j_goto (tgt := 51) rfl (by decide) ?_
      refine j_iret rfl rfl ?_ rfl (Nat.le_refl _)
      refine ⟨?_, ?_⟩
      · first | rfl | (refine congrArg some (congrArg vI ?_); unfold runV; first | (rw [if_pos (by omega)] <;> rfl) | (rw [if_neg (by omega), if_pos (by omega)] <;> rfl) | (rw [if_neg (by omega), if_neg (by omega)] <;> rfl))
      · first | rfl | (unfold runT; first | (rw [if_pos (by omega)] <;> rfl) | (rw [if_neg (by omega), if_pos (by omega)] <;> rfl) | (rw [if_neg (by omega), if_neg (by omega)] <;> rfl))
  · skip
    refine j_aload_n rfl rfl ?_
    refine j_bipush rfl (by decide) ?_
    refine j_callV (ci := 12) rfl okX12_ran c_X12_481 (ct_X12_ran h (by first | omega | (simp only [List.length_append, List.length_cons, List.length_nil]; omega))) rfl rfl (h.1.lt (by decide)) (h.1.k (by decide) (by decide)) (by decide) rfl (Nat.le_of_ble_eq_true rfl) (by decide) (by decide) ?_
    rintro vq mq ⟨e1, e2⟩
    rw [e1, show mq = ranL [70] m from e2]
    clear e1 e2
    simp only [Option.toList_some, Option.toList_none, List.nil_append]
    refine j_aload_n rfl rfl ?_
    refine j_iload_n rfl rfl ?_
    refine j_iload_n rfl rfl ?_
    refine j_callV (ci := 12) rfl okX12_feelingRuns c_X12_487 (ct_X12_feelingRuns (AT.list (n := n) ([70]) h (by first | omega | (simp only [List.length_append, List.length_cons, List.length_nil]; omega))) (by first | omega | (simp only [List.length_append, List.length_cons, List.length_nil]; omega)) hb0 hb5) rfl rfl (((AT.list (n := n) ([70]) h (by first | omega | (simp only [List.length_append, List.length_cons, List.length_nil]; omega)))).1.lt (by decide)) (((AT.list (n := n) ([70]) h (by first | omega | (simp only [List.length_append, List.length_cons, List.length_nil]; omega)))).1.k (by decide) (by decide)) (by decide) rfl (Nat.le_of_ble_eq_true rfl) (by decide) (by decide) ?_
    rintro vq mq ⟨e1, e2⟩
    try simp only [ranL_mi (o := 87) (by decide) (by decide), ranL_mi (o := 91) (by decide) (by decide)] at e1 e2
    rw [e1, show mq = ranL ([70] ++ [40, 1]) m from e2.trans (ranL_app ([70]) ([40, 1]) m).symm]
    clear e1 e2
    rw [Option.toList_some, List.singleton_append]
    refine j_iconst rfl ?_
    refine j_imul rfl ?_
    refine j_iret rfl rfl ?_ rfl (Nat.le_refl _)
    refine ⟨?_, ?_⟩
    · first | rfl | (refine congrArg some (congrArg vI ?_); unfold runV; first | (rw [if_pos (by omega)] <;> rfl) | (rw [if_neg (by omega), if_pos (by omega)] <;> rfl) | (rw [if_neg (by omega), if_neg (by omega)] <;> rfl))
    · first | rfl | (unfold runT; first | (rw [if_pos (by omega)] <;> rfl) | (rw [if_neg (by omega), if_pos (by omega)] <;> rfl) | (rw [if_neg (by omega), if_neg (by omega)] <;> rfl))

set_option maxRecDepth 20000 in
theorem ct_X12_plainSends {G : QW} {m : AM} {b x : Int} {n : Nat} (h : AT m n) (hn : n ≤ 45) (hb0 : 0 ≤ b) (hb5 : b ≤ 5) : qM G mX12_plainSends 4 0 0 [vR 86, vI b, vI x] m (fun r m' => r = some (vI ((runV (mi m 87 b.toNat) b x) * 2)) ∧ m' = ranL ([10] ++ runT (mi m 87 b.toNat)) m) := by
  refine qM.intro okX12_plainSends (Nat.le_of_ble_eq_true rfl) ?_
  have l1 := runT_len (mi m 87 b.toNat)
  have l2 := bckT_len (mi m 87 b.toNat)
  have l3 := senT_len (mi m 87 b.toNat)
  have l4 := ptlT_len (mi m 87 b.toNat)
  refine j_aload_n rfl rfl ?_
  refine j_bipush rfl (by decide) ?_
  refine j_callV (ci := 12) rfl okX12_ran c_X12_481 (ct_X12_ran h (by first | omega | (simp only [List.length_append, List.length_cons, List.length_nil]; omega))) rfl rfl (h.1.lt (by decide)) (h.1.k (by decide) (by decide)) (by decide) rfl (Nat.le_of_ble_eq_true rfl) (by decide) (by decide) ?_
  rintro vq mq ⟨e1, e2⟩
  rw [e1, show mq = ranL [10] m from e2]
  clear e1 e2
  simp only [Option.toList_some, Option.toList_none, List.nil_append]
  refine j_aload_n rfl rfl ?_
  refine j_iload_n rfl rfl ?_
  refine j_iload_n rfl rfl ?_
  refine j_callV (ci := 12) rfl okX12_runs c_X12_490 (ct_X12_runs (AT.list (n := n) ([10]) h (by first | omega | (simp only [List.length_append, List.length_cons, List.length_nil]; omega))) (by first | omega | (simp only [List.length_append, List.length_cons, List.length_nil]; omega)) hb0 hb5) rfl rfl (((AT.list (n := n) ([10]) h (by first | omega | (simp only [List.length_append, List.length_cons, List.length_nil]; omega)))).1.lt (by decide)) (((AT.list (n := n) ([10]) h (by first | omega | (simp only [List.length_append, List.length_cons, List.length_nil]; omega)))).1.k (by decide) (by decide)) (by decide) rfl (Nat.le_of_ble_eq_true rfl) (by decide) (by decide) ?_
  rintro vq mq ⟨e1, e2⟩
  try simp only [ranL_mi (o := 87) (by decide) (by decide), ranL_mi (o := 91) (by decide) (by decide)] at e1 e2
  rw [e1, show mq = ranL ([10] ++ runT (mi m 87 b.toNat)) m from e2.trans (ranL_app ([10]) (runT (mi m 87 b.toNat)) m).symm]
  clear e1 e2
  rw [Option.toList_some, List.singleton_append]
  refine j_iconst rfl ?_
  refine j_imul rfl ?_
  refine j_iret rfl rfl ?_ rfl (Nat.le_refl _)
  refine ⟨?_, ?_⟩
  · first | rfl | (refine congrArg some (congrArg vI ?_); unfold ptlV; first | (rw [if_pos (by omega)] <;> rfl) | (rw [if_neg (by omega), if_pos (by omega)] <;> rfl) | (rw [if_neg (by omega), if_neg (by omega)] <;> rfl))
  · first | rfl | (unfold ptlT; first | (rw [if_pos (by omega)] <;> rfl) | (rw [if_neg (by omega), if_pos (by omega)] <;> rfl) | (rw [if_neg (by omega), if_neg (by omega)] <;> rfl))

set_option maxRecDepth 20000 in
theorem ct_X12_plainBack {G : QW} {m : AM} {b x : Int} {n : Nat} (h : AT m n) (hn : n ≤ 70) (hb0 : 0 ≤ b) (hb5 : b ≤ 5) : qM G mX12_plainBack 1 0 0 [vR 86, vI b, vI x] m (fun r m' => r = some (vI (z_ixor x b)) ∧ m' = ranL ([11]) m) := by
  refine qM.intro okX12_plainBack (Nat.le_of_ble_eq_true rfl) ?_
  have l1 := runT_len (mi m 87 b.toNat)
  have l2 := bckT_len (mi m 87 b.toNat)
  have l3 := senT_len (mi m 87 b.toNat)
  have l4 := ptlT_len (mi m 87 b.toNat)
  refine j_aload_n rfl rfl ?_
  refine j_bipush rfl (by decide) ?_
  refine j_callV (ci := 12) rfl okX12_ran c_X12_481 (ct_X12_ran h (by first | omega | (simp only [List.length_append, List.length_cons, List.length_nil]; omega))) rfl rfl (h.1.lt (by decide)) (h.1.k (by decide) (by decide)) (by decide) rfl (Nat.le_of_ble_eq_true rfl) (by decide) (by decide) ?_
  rintro vq mq ⟨e1, e2⟩
  rw [e1, show mq = ranL [11] m from e2]
  clear e1 e2
  simp only [Option.toList_some, Option.toList_none, List.nil_append]
  refine j_iload_n rfl rfl ?_
  refine j_iload_n rfl rfl ?_
  refine j_ixor rfl ?_
  have z8_1 := z_ixor_rng x b
  refine j_iret rfl rfl ?_ rfl (Nat.le_refl _)
  refine ⟨?_, ?_⟩
  · first | rfl | (refine congrArg some (congrArg vI ?_); unfold ptlV; first | (rw [if_pos (by omega)] <;> rfl) | (rw [if_neg (by omega), if_pos (by omega)] <;> rfl) | (rw [if_neg (by omega), if_neg (by omega)] <;> rfl))
  · first | rfl | (unfold ptlT; first | (rw [if_pos (by omega)] <;> rfl) | (rw [if_neg (by omega), if_pos (by omega)] <;> rfl) | (rw [if_neg (by omega), if_neg (by omega)] <;> rfl))

set_option maxRecDepth 20000 in
theorem ct_X12_holdsBack {G : QW} {m : AM} {b x : Int} {n : Nat} (h : AT m n) (hn : n ≤ 60) (hb0 : 0 ≤ b) (hb5 : b ≤ 5) : qM G mX12_holdsBack 2 0 0 [vR 86, vI b, vI x] m (fun r m' => r = some (vI (bckV (mi m 87 b.toNat) b x)) ∧ m' = ranL (bckT (mi m 87 b.toNat)) m) := by
  refine qM.intro okX12_holdsBack (Nat.le_of_ble_eq_true rfl) ?_
  have l1 := runT_len (mi m 87 b.toNat)
  have l2 := bckT_len (mi m 87 b.toNat)
  have l3 := senT_len (mi m 87 b.toNat)
  have l4 := ptlT_len (mi m 87 b.toNat)
  refine j_aload_n rfl rfl ?_
  refine j_getR (q := 87) rfl f_X12_7 rfl (h.1.lt (by decide)) (h.1.k (by decide) (by decide)) (h.1.r (by decide)) ?_
  refine j_iload_n rfl rfl ?_
  refine j_iald (n := 6) rfl (h.1.lt (by decide)) (h.1.k (by decide) (by decide)) (h.1.n (by decide) (by decide)) (by omega) (by omega) (by decide) ?_
  have u5_1 := mi_rng m 87 b.toNat
  refine j_iconst rfl ?_
  refine j_icmp_ne (tgt := 25) rfl (by decide) (by omega) (by omega) (by omega) (by omega) (fun hb7_1 => ?_) (fun hb7_1 => ?_)
  · skip
    refine j_aload_n rfl rfl ?_
    refine j_getR (q := 87) rfl f_X12_7 rfl (h.1.lt (by decide)) (h.1.k (by decide) (by decide)) (h.1.r (by decide)) ?_
    refine j_iload_n rfl rfl ?_
    refine j_iald (n := 6) rfl (h.1.lt (by decide)) (h.1.k (by decide) (by decide)) (h.1.n (by decide) (by decide)) (by omega) (by omega) (by decide) ?_
    have u30_1 := mi_rng m 87 b.toNat
    refine j_iconst rfl ?_
    refine j_icmp_ne (tgt := 49) rfl (by decide) (by omega) (by omega) (by omega) (by omega) (fun hb32_1 => ?_) (fun hb32_1 => ?_)
    · skip
      refine j_aload_n rfl rfl ?_
      refine j_iload_n rfl rfl ?_
      refine j_iload_n rfl rfl ?_
      refine j_callV (ci := 12) rfl okX12_plainBack c_X12_499 (ct_X12_plainBack h (by first | omega | (simp only [List.length_append, List.length_cons, List.length_nil]; omega)) hb0 hb5) rfl rfl (h.1.lt (by decide)) (h.1.k (by decide) (by decide)) (by decide) rfl (Nat.le_of_ble_eq_true rfl) (by decide) (by decide) ?_
      rintro vq mq ⟨e1, e2⟩
      rw [e1, show mq = ranL ([11]) m from e2]
      clear e1 e2
      rw [Option.toList_some, List.singleton_append]
      refine j_iret rfl rfl ?_ rfl (Nat.le_refl _)
      refine ⟨?_, ?_⟩
      · first | rfl | (refine congrArg some (congrArg vI ?_); unfold bckV; first | (rw [if_pos (by omega)] <;> rfl) | (rw [if_neg (by omega), if_pos (by omega)] <;> rfl) | (rw [if_neg (by omega), if_neg (by omega)] <;> rfl))
      · first | rfl | (unfold bckT; first | (rw [if_pos (by omega)] <;> rfl) | (rw [if_neg (by omega), if_pos (by omega)] <;> rfl) | (rw [if_neg (by omega), if_neg (by omega)] <;> rfl))
    · skip
      refine j_aload_n rfl rfl ?_
      refine j_bipush rfl (by decide) ?_
      refine j_callV (ci := 12) rfl okX12_ran c_X12_481 (ct_X12_ran h (by first | omega | (simp only [List.length_append, List.length_cons, List.length_nil]; omega))) rfl rfl (h.1.lt (by decide)) (h.1.k (by decide) (by decide)) (by decide) rfl (Nat.le_of_ble_eq_true rfl) (by decide) (by decide) ?_
      rintro vq mq ⟨e1, e2⟩
      rw [e1, show mq = ranL [60] m from e2]
      clear e1 e2
      simp only [Option.toList_some, Option.toList_none, List.nil_append]
      refine j_aload_n rfl rfl ?_
      refine j_iload_n rfl rfl ?_
      refine j_iload_n rfl rfl ?_
      refine j_callV (ci := 12) rfl okX12_plainBack c_X12_499 (ct_X12_plainBack (AT.list (n := n) ([60]) h (by first | omega | (simp only [List.length_append, List.length_cons, List.length_nil]; omega))) (by first | omega | (simp only [List.length_append, List.length_cons, List.length_nil]; omega)) hb0 hb5) rfl rfl (((AT.list (n := n) ([60]) h (by first | omega | (simp only [List.length_append, List.length_cons, List.length_nil]; omega)))).1.lt (by decide)) (((AT.list (n := n) ([60]) h (by first | omega | (simp only [List.length_append, List.length_cons, List.length_nil]; omega)))).1.k (by decide) (by decide)) (by decide) rfl (Nat.le_of_ble_eq_true rfl) (by decide) (by decide) ?_
      rintro vq mq ⟨e1, e2⟩
      try simp only [ranL_mi (o := 87) (by decide) (by decide), ranL_mi (o := 91) (by decide) (by decide)] at e1 e2
      rw [e1, show mq = ranL ([60] ++ [11]) m from e2.trans (ranL_app ([60]) ([11]) m).symm]
      clear e1 e2
      rw [Option.toList_some, List.singleton_append]
      refine j_ineg rfl ?_
      refine j_iret rfl rfl ?_ rfl (Nat.le_refl _)
      refine ⟨?_, ?_⟩
      · first | rfl | (refine congrArg some (congrArg vI ?_); unfold bckV; first | (rw [if_pos (by omega)] <;> rfl) | (rw [if_neg (by omega), if_pos (by omega)] <;> rfl) | (rw [if_neg (by omega), if_neg (by omega)] <;> rfl))
      · first | rfl | (unfold bckT; first | (rw [if_pos (by omega)] <;> rfl) | (rw [if_neg (by omega), if_pos (by omega)] <;> rfl) | (rw [if_neg (by omega), if_neg (by omega)] <;> rfl))
  · skip
    refine j_aload_n rfl rfl ?_
    refine j_bipush rfl (by decide) ?_
    refine j_callV (ci := 12) rfl okX12_ran c_X12_481 (ct_X12_ran h (by first | omega | (simp only [List.length_append, List.length_cons, List.length_nil]; omega))) rfl rfl (h.1.lt (by decide)) (h.1.k (by decide) (by decide)) (by decide) rfl (Nat.le_of_ble_eq_true rfl) (by decide) (by decide) ?_
    rintro vq mq ⟨e1, e2⟩
    rw [e1, show mq = ranL [30] m from e2]
    clear e1 e2
    simp only [Option.toList_some, Option.toList_none, List.nil_append]
    refine j_aload_n rfl rfl ?_
    refine j_iload_n rfl rfl ?_
    refine j_iload_n rfl rfl ?_
    refine j_callV (ci := 12) rfl okX12_plainBack c_X12_499 (ct_X12_plainBack (AT.list (n := n) ([30]) h (by first | omega | (simp only [List.length_append, List.length_cons, List.length_nil]; omega))) (by first | omega | (simp only [List.length_append, List.length_cons, List.length_nil]; omega)) hb0 hb5) rfl rfl (((AT.list (n := n) ([30]) h (by first | omega | (simp only [List.length_append, List.length_cons, List.length_nil]; omega)))).1.lt (by decide)) (((AT.list (n := n) ([30]) h (by first | omega | (simp only [List.length_append, List.length_cons, List.length_nil]; omega)))).1.k (by decide) (by decide)) (by decide) rfl (Nat.le_of_ble_eq_true rfl) (by decide) (by decide) ?_
    rintro vq mq ⟨e1, e2⟩
    try simp only [ranL_mi (o := 87) (by decide) (by decide), ranL_mi (o := 91) (by decide) (by decide)] at e1 e2
    rw [e1, show mq = ranL ([30] ++ [11]) m from e2.trans (ranL_app ([30]) ([11]) m).symm]
    clear e1 e2
    rw [Option.toList_some, List.singleton_append]
    refine j_iconst rfl ?_
    refine j_imul rfl ?_
    refine j_iret rfl rfl ?_ rfl (Nat.le_refl _)
    refine ⟨?_, ?_⟩
    · first | rfl | (refine congrArg some (congrArg vI ?_); unfold bckV; first | (rw [if_pos (by omega)] <;> rfl) | (rw [if_neg (by omega), if_pos (by omega)] <;> rfl) | (rw [if_neg (by omega), if_neg (by omega)] <;> rfl))
    · first | rfl | (unfold bckT; first | (rw [if_pos (by omega)] <;> rfl) | (rw [if_neg (by omega), if_pos (by omega)] <;> rfl) | (rw [if_neg (by omega), if_neg (by omega)] <;> rfl))

set_option maxRecDepth 20000 in
theorem ct_X12_sends {G : QW} {m : AM} {b x : Int} {n : Nat} (h : AT m n) (hn : n ≤ 40) (hb0 : 0 ≤ b) (hb5 : b ≤ 5) : qM G mX12_sends 5 0 0 [vR 86, vI b, vI x] m (fun r m' => r = some (vI (senV (mi m 87 b.toNat) b x (mi m 91 b.toNat))) ∧ m' = ranL (senT (mi m 87 b.toNat)) m) := by
  refine qM.intro okX12_sends (Nat.le_of_ble_eq_true rfl) ?_
  have l1 := runT_len (mi m 87 b.toNat)
  have l2 := bckT_len (mi m 87 b.toNat)
  have l3 := senT_len (mi m 87 b.toNat)
  have l4 := ptlT_len (mi m 87 b.toNat)
  refine j_aload_n rfl rfl ?_
  refine j_getR (q := 87) rfl f_X12_7 rfl (h.1.lt (by decide)) (h.1.k (by decide) (by decide)) (h.1.r (by decide)) ?_
  refine j_iload_n rfl rfl ?_
  refine j_iald (n := 6) rfl (h.1.lt (by decide)) (h.1.k (by decide) (by decide)) (h.1.n (by decide) (by decide)) (by omega) (by omega) (by decide) ?_
  have u5_1 := mi_rng m 87 b.toNat
  refine j_iconst rfl ?_
  refine j_icmp_ne (tgt := 30) rfl (by decide) (by omega) (by omega) (by omega) (by omega) (fun hb7_1 => ?_) (fun hb7_1 => ?_)
  · skip
    refine j_aload_n rfl rfl ?_
    refine j_getR (q := 87) rfl f_X12_7 rfl (h.1.lt (by decide)) (h.1.k (by decide) (by decide)) (h.1.r (by decide)) ?_
    refine j_iload_n rfl rfl ?_
    refine j_iald (n := 6) rfl (h.1.lt (by decide)) (h.1.k (by decide) (by decide)) (h.1.n (by decide) (by decide)) (by omega) (by omega) (by decide) ?_
    have u35_1 := mi_rng m 87 b.toNat
    refine j_bipush rfl (by decide) ?_
    refine j_icmp_ne (tgt := 63) rfl (by decide) (by omega) (by omega) (by omega) (by omega) (fun hb38_1 => ?_) (fun hb38_1 => ?_)
    · skip
      refine j_aload_n rfl rfl ?_
      refine j_iload_n rfl rfl ?_
      refine j_iload_n rfl rfl ?_
      refine j_callV (ci := 12) rfl okX12_plainSends c_X12_493 (ct_X12_plainSends h (by first | omega | (simp only [List.length_append, List.length_cons, List.length_nil]; omega)) hb0 hb5) rfl rfl (h.1.lt (by decide)) (h.1.k (by decide) (by decide)) (by decide) rfl (Nat.le_of_ble_eq_true rfl) (by decide) (by decide) ?_
      rintro vq mq ⟨e1, e2⟩
      rw [e1, show mq = ranL ([10] ++ runT (mi m 87 b.toNat)) m from e2]
      clear e1 e2
      rw [Option.toList_some, List.singleton_append]
      refine j_iret rfl rfl ?_ rfl (Nat.le_refl _)
      refine ⟨?_, ?_⟩
      · first | rfl | (refine congrArg some (congrArg vI ?_); unfold senV; first | (rw [if_pos (by omega)] <;> rfl) | (rw [if_neg (by omega), if_pos (by omega)] <;> rfl) | (rw [if_neg (by omega), if_neg (by omega)] <;> rfl))
      · first | rfl | (unfold senT; first | (rw [if_pos (by omega)] <;> rfl) | (rw [if_neg (by omega), if_pos (by omega)] <;> rfl) | (rw [if_neg (by omega), if_neg (by omega)] <;> rfl))
    · skip
      refine j_aload_n rfl rfl ?_
      refine j_bipush rfl (by decide) ?_
      refine j_callV (ci := 12) rfl okX12_ran c_X12_481 (ct_X12_ran h (by first | omega | (simp only [List.length_append, List.length_cons, List.length_nil]; omega))) rfl rfl (h.1.lt (by decide)) (h.1.k (by decide) (by decide)) (by decide) rfl (Nat.le_of_ble_eq_true rfl) (by decide) (by decide) ?_
      rintro vq mq ⟨e1, e2⟩
      rw [e1, show mq = ranL [71] m from e2]
      clear e1 e2
      simp only [Option.toList_some, Option.toList_none, List.nil_append]
      refine j_aload_n rfl rfl ?_
      refine j_iload_n rfl rfl ?_
      refine j_iload_n rfl rfl ?_
      refine j_callV (ci := 12) rfl okX12_plainSends c_X12_493 (ct_X12_plainSends (AT.list (n := n) ([71]) h (by first | omega | (simp only [List.length_append, List.length_cons, List.length_nil]; omega))) (by first | omega | (simp only [List.length_append, List.length_cons, List.length_nil]; omega)) hb0 hb5) rfl rfl (((AT.list (n := n) ([71]) h (by first | omega | (simp only [List.length_append, List.length_cons, List.length_nil]; omega)))).1.lt (by decide)) (((AT.list (n := n) ([71]) h (by first | omega | (simp only [List.length_append, List.length_cons, List.length_nil]; omega)))).1.k (by decide) (by decide)) (by decide) rfl (Nat.le_of_ble_eq_true rfl) (by decide) (by decide) ?_
      rintro vq mq ⟨e1, e2⟩
      try simp only [ranL_mi (o := 87) (by decide) (by decide), ranL_mi (o := 91) (by decide) (by decide)] at e1 e2
      rw [e1, show mq = ranL ([71] ++ ([10] ++ runT (mi m 87 b.toNat))) m from e2.trans (ranL_app ([71]) ([10] ++ runT (mi m 87 b.toNat)) m).symm]
      clear e1 e2
      rw [Option.toList_some, List.singleton_append]
      refine j_istore_n rfl (by decide) ?_
      refine j_iload_n rfl rfl ?_
      refine j_aload_n rfl rfl ?_
      refine j_iload_n rfl rfl ?_
      refine j_iconst rfl ?_
      refine j_callV (ci := 12) rfl okX12_holdsBack c_X12_496 (ct_X12_holdsBack (AT.list (n := n) ([71] ++ ([10] ++ runT (mi m 87 b.toNat))) h (by first | omega | (simp only [List.length_append, List.length_cons, List.length_nil]; omega))) (by first | omega | (simp only [List.length_append, List.length_cons, List.length_nil]; omega)) hb0 hb5) rfl rfl (((AT.list (n := n) ([71] ++ ([10] ++ runT (mi m 87 b.toNat))) h (by first | omega | (simp only [List.length_append, List.length_cons, List.length_nil]; omega)))).1.lt (by decide)) (((AT.list (n := n) ([71] ++ ([10] ++ runT (mi m 87 b.toNat))) h (by first | omega | (simp only [List.length_append, List.length_cons, List.length_nil]; omega)))).1.k (by decide) (by decide)) (by decide) rfl (Nat.le_of_ble_eq_true rfl) (by decide) (by decide) ?_
      rintro vq mq ⟨e1, e2⟩
      try simp only [ranL_mi (o := 87) (by decide) (by decide), ranL_mi (o := 91) (by decide) (by decide)] at e1 e2
      rw [e1, show mq = ranL (([71] ++ ([10] ++ runT (mi m 87 b.toNat))) ++ bckT (mi m 87 b.toNat)) m from e2.trans (ranL_app ([71] ++ ([10] ++ runT (mi m 87 b.toNat))) (bckT (mi m 87 b.toNat)) m).symm]
      clear e1 e2
      rw [Option.toList_some, List.singleton_append]
      refine j_isub rfl ?_
      refine j_iret rfl rfl ?_ rfl (Nat.le_refl _)
      refine ⟨?_, ?_⟩
      · first | rfl | (refine congrArg some (congrArg vI ?_); unfold senV; first | (rw [if_pos (by omega)] <;> rfl) | (rw [if_neg (by omega), if_pos (by omega)] <;> rfl) | (rw [if_neg (by omega), if_neg (by omega)] <;> rfl))
      · first | rfl | (unfold senT; first | (rw [if_pos (by omega)] <;> rfl) | (rw [if_neg (by omega), if_pos (by omega)] <;> rfl) | (rw [if_neg (by omega), if_neg (by omega)] <;> rfl))
  · skip
    refine j_aload_n rfl rfl ?_
    refine j_bipush rfl (by decide) ?_
    refine j_callV (ci := 12) rfl okX12_ran c_X12_481 (ct_X12_ran h (by first | omega | (simp only [List.length_append, List.length_cons, List.length_nil]; omega))) rfl rfl (h.1.lt (by decide)) (h.1.k (by decide) (by decide)) (by decide) rfl (Nat.le_of_ble_eq_true rfl) (by decide) (by decide) ?_
    rintro vq mq ⟨e1, e2⟩
    rw [e1, show mq = ranL [20] m from e2]
    clear e1 e2
    simp only [Option.toList_some, Option.toList_none, List.nil_append]
    refine j_aload_n rfl rfl ?_
    refine j_iload_n rfl rfl ?_
    refine j_iload_n rfl rfl ?_
    refine j_callV (ci := 12) rfl okX12_plainSends c_X12_493 (ct_X12_plainSends (AT.list (n := n) ([20]) h (by first | omega | (simp only [List.length_append, List.length_cons, List.length_nil]; omega))) (by first | omega | (simp only [List.length_append, List.length_cons, List.length_nil]; omega)) hb0 hb5) rfl rfl (((AT.list (n := n) ([20]) h (by first | omega | (simp only [List.length_append, List.length_cons, List.length_nil]; omega)))).1.lt (by decide)) (((AT.list (n := n) ([20]) h (by first | omega | (simp only [List.length_append, List.length_cons, List.length_nil]; omega)))).1.k (by decide) (by decide)) (by decide) rfl (Nat.le_of_ble_eq_true rfl) (by decide) (by decide) ?_
    rintro vq mq ⟨e1, e2⟩
    try simp only [ranL_mi (o := 87) (by decide) (by decide), ranL_mi (o := 91) (by decide) (by decide)] at e1 e2
    rw [e1, show mq = ranL ([20] ++ ([10] ++ runT (mi m 87 b.toNat))) m from e2.trans (ranL_app ([20]) ([10] ++ runT (mi m 87 b.toNat)) m).symm]
    clear e1 e2
    rw [Option.toList_some, List.singleton_append]
    refine j_aload_n rfl rfl ?_
    refine j_getR (q := 91) rfl f_X12_22 rfl (((AT.list (n := n) ([20] ++ ([10] ++ runT (mi m 87 b.toNat))) h (by first | omega | (simp only [List.length_append, List.length_cons, List.length_nil]; omega)))).1.lt (by decide)) (((AT.list (n := n) ([20] ++ ([10] ++ runT (mi m 87 b.toNat))) h (by first | omega | (simp only [List.length_append, List.length_cons, List.length_nil]; omega)))).1.k (by decide) (by decide)) (((AT.list (n := n) ([20] ++ ([10] ++ runT (mi m 87 b.toNat))) h (by first | omega | (simp only [List.length_append, List.length_cons, List.length_nil]; omega)))).1.r (by decide)) ?_
    refine j_iload_n rfl rfl ?_
    refine j_iald (n := 7) rfl (((AT.list (n := n) ([20] ++ ([10] ++ runT (mi m 87 b.toNat))) h (by first | omega | (simp only [List.length_append, List.length_cons, List.length_nil]; omega)))).1.lt (by decide)) (((AT.list (n := n) ([20] ++ ([10] ++ runT (mi m 87 b.toNat))) h (by first | omega | (simp only [List.length_append, List.length_cons, List.length_nil]; omega)))).1.k (by decide) (by decide)) (((AT.list (n := n) ([20] ++ ([10] ++ runT (mi m 87 b.toNat))) h (by first | omega | (simp only [List.length_append, List.length_cons, List.length_nil]; omega)))).1.n (by decide) (by decide)) (by omega) (by omega) (by decide) ?_
    rw [ranL_mi (o := 91) (j := b.toNat) (by decide) (by decide)]
    have u27_1 := mi_rng m 91 b.toNat
    refine j_iadd rfl ?_
    refine j_iret rfl rfl ?_ rfl (Nat.le_refl _)
    refine ⟨?_, ?_⟩
    · first | rfl | (refine congrArg some (congrArg vI ?_); unfold senV; first | (rw [if_pos (by omega)] <;> rfl) | (rw [if_neg (by omega), if_pos (by omega)] <;> rfl) | (rw [if_neg (by omega), if_neg (by omega)] <;> rfl))
    · first | rfl | (unfold senT; first | (rw [if_pos (by omega)] <;> rfl) | (rw [if_neg (by omega), if_pos (by omega)] <;> rfl) | (rw [if_neg (by omega), if_neg (by omega)] <;> rfl))

set_option maxRecDepth 20000 in
theorem ct_X12_plainTells {G : QW} {m : AM} {b x : Int} {n : Nat} (h : AT m n) (hn : n ≤ 30) (hb0 : 0 ≤ b) (hb5 : b ≤ 5) : qM G mX12_plainTells 6 0 0 [vR 86, vI b, vI x] m (fun r m' => r = some (vI (ptlV (mi m 87 b.toNat) b x (mi m 91 b.toNat))) ∧ m' = ranL (ptlT (mi m 87 b.toNat)) m) := by
  refine qM.intro okX12_plainTells (Nat.le_of_ble_eq_true rfl) ?_
  have l1 := runT_len (mi m 87 b.toNat)
  have l2 := bckT_len (mi m 87 b.toNat)
  have l3 := senT_len (mi m 87 b.toNat)
  have l4 := ptlT_len (mi m 87 b.toNat)
  refine j_aload_n rfl rfl ?_
  refine j_iconst rfl ?_
  refine j_callV (ci := 12) rfl okX12_ran c_X12_481 (ct_X12_ran h (by first | omega | (simp only [List.length_append, List.length_cons, List.length_nil]; omega))) rfl rfl (h.1.lt (by decide)) (h.1.k (by decide) (by decide)) (by decide) rfl (Nat.le_of_ble_eq_true rfl) (by decide) (by decide) ?_
  rintro vq mq ⟨e1, e2⟩
  rw [e1, show mq = ranL [2] m from e2]
  clear e1 e2
  simp only [Option.toList_some, Option.toList_none, List.nil_append]
  refine j_aload_n rfl rfl ?_
  refine j_iload_n rfl rfl ?_
  refine j_iload_n rfl rfl ?_
  refine j_callV (ci := 12) rfl okX12_sends c_X12_502 (ct_X12_sends (AT.list (n := n) ([2]) h (by first | omega | (simp only [List.length_append, List.length_cons, List.length_nil]; omega))) (by first | omega | (simp only [List.length_append, List.length_cons, List.length_nil]; omega)) hb0 hb5) rfl rfl (((AT.list (n := n) ([2]) h (by first | omega | (simp only [List.length_append, List.length_cons, List.length_nil]; omega)))).1.lt (by decide)) (((AT.list (n := n) ([2]) h (by first | omega | (simp only [List.length_append, List.length_cons, List.length_nil]; omega)))).1.k (by decide) (by decide)) (by decide) rfl (Nat.le_of_ble_eq_true rfl) (by decide) (by decide) ?_
  rintro vq mq ⟨e1, e2⟩
  try simp only [ranL_mi (o := 87) (by decide) (by decide), ranL_mi (o := 91) (by decide) (by decide)] at e1 e2
  rw [e1, show mq = ranL ([2] ++ senT (mi m 87 b.toNat)) m from e2.trans (ranL_app ([2]) (senT (mi m 87 b.toNat)) m).symm]
  clear e1 e2
  rw [Option.toList_some, List.singleton_append]
  refine j_istore_n rfl (by decide) ?_
  refine j_iload_n rfl rfl ?_
  refine j_aload_n rfl rfl ?_
  refine j_iload_n rfl rfl ?_
  refine j_iconst rfl ?_
  refine j_callV (ci := 12) rfl okX12_holdsBack c_X12_496 (ct_X12_holdsBack (AT.list (n := n) ([2] ++ senT (mi m 87 b.toNat)) h (by first | omega | (simp only [List.length_append, List.length_cons, List.length_nil]; omega))) (by first | omega | (simp only [List.length_append, List.length_cons, List.length_nil]; omega)) hb0 hb5) rfl rfl (((AT.list (n := n) ([2] ++ senT (mi m 87 b.toNat)) h (by first | omega | (simp only [List.length_append, List.length_cons, List.length_nil]; omega)))).1.lt (by decide)) (((AT.list (n := n) ([2] ++ senT (mi m 87 b.toNat)) h (by first | omega | (simp only [List.length_append, List.length_cons, List.length_nil]; omega)))).1.k (by decide) (by decide)) (by decide) rfl (Nat.le_of_ble_eq_true rfl) (by decide) (by decide) ?_
  rintro vq mq ⟨e1, e2⟩
  try simp only [ranL_mi (o := 87) (by decide) (by decide), ranL_mi (o := 91) (by decide) (by decide)] at e1 e2
  rw [e1, show mq = ranL (([2] ++ senT (mi m 87 b.toNat)) ++ bckT (mi m 87 b.toNat)) m from e2.trans (ranL_app ([2] ++ senT (mi m 87 b.toNat)) (bckT (mi m 87 b.toNat)) m).symm]
  clear e1 e2
  rw [Option.toList_some, List.singleton_append]
  refine j_isub rfl ?_
  refine j_iret rfl rfl ?_ rfl (Nat.le_refl _)
  refine ⟨?_, ?_⟩
  · first | rfl | (refine congrArg some (congrArg vI ?_); unfold ptlV; first | (rw [if_pos (by omega)] <;> rfl) | (rw [if_neg (by omega), if_pos (by omega)] <;> rfl) | (rw [if_neg (by omega), if_neg (by omega)] <;> rfl))
  · first | rfl | (unfold ptlT; first | (rw [if_pos (by omega)] <;> rfl) | (rw [if_neg (by omega), if_pos (by omega)] <;> rfl) | (rw [if_neg (by omega), if_neg (by omega)] <;> rfl))

set_option maxRecDepth 20000 in
theorem ct_X12_keptTells {G : QW} {m : AM} {b x : Int} {n : Nat} (h : AT m n) (hn : n ≤ 25) (hb0 : 0 ≤ b) (hb5 : b ≤ 5) : qM G mX12_keptTells 7 0 0 [vR 86, vI b, vI x] m (fun r m' => r = some (vI (z_ixor (ptlV (mi m 87 b.toNat) b x (mi m 91 b.toNat)) 6)) ∧ m' = ranL ([50] ++ ptlT (mi m 87 b.toNat)) m) := by
  refine qM.intro okX12_keptTells (Nat.le_of_ble_eq_true rfl) ?_
  have l1 := runT_len (mi m 87 b.toNat)
  have l2 := bckT_len (mi m 87 b.toNat)
  have l3 := senT_len (mi m 87 b.toNat)
  have l4 := ptlT_len (mi m 87 b.toNat)
  refine j_aload_n rfl rfl ?_
  refine j_bipush rfl (by decide) ?_
  refine j_callV (ci := 12) rfl okX12_ran c_X12_481 (ct_X12_ran h (by first | omega | (simp only [List.length_append, List.length_cons, List.length_nil]; omega))) rfl rfl (h.1.lt (by decide)) (h.1.k (by decide) (by decide)) (by decide) rfl (Nat.le_of_ble_eq_true rfl) (by decide) (by decide) ?_
  rintro vq mq ⟨e1, e2⟩
  rw [e1, show mq = ranL [50] m from e2]
  clear e1 e2
  simp only [Option.toList_some, Option.toList_none, List.nil_append]
  refine j_aload_n rfl rfl ?_
  refine j_iload_n rfl rfl ?_
  refine j_iload_n rfl rfl ?_
  refine j_callV (ci := 12) rfl okX12_plainTells c_X12_505 (ct_X12_plainTells (AT.list (n := n) ([50]) h (by first | omega | (simp only [List.length_append, List.length_cons, List.length_nil]; omega))) (by first | omega | (simp only [List.length_append, List.length_cons, List.length_nil]; omega)) hb0 hb5) rfl rfl (((AT.list (n := n) ([50]) h (by first | omega | (simp only [List.length_append, List.length_cons, List.length_nil]; omega)))).1.lt (by decide)) (((AT.list (n := n) ([50]) h (by first | omega | (simp only [List.length_append, List.length_cons, List.length_nil]; omega)))).1.k (by decide) (by decide)) (by decide) rfl (Nat.le_of_ble_eq_true rfl) (by decide) (by decide) ?_
  rintro vq mq ⟨e1, e2⟩
  try simp only [ranL_mi (o := 87) (by decide) (by decide), ranL_mi (o := 91) (by decide) (by decide)] at e1 e2
  rw [e1, show mq = ranL ([50] ++ ptlT (mi m 87 b.toNat)) m from e2.trans (ranL_app ([50]) (ptlT (mi m 87 b.toNat)) m).symm]
  clear e1 e2
  rw [Option.toList_some, List.singleton_append]
  refine j_bipush rfl (by decide) ?_
  refine j_ixor rfl ?_
  have z14_1 := z_ixor_rng (ptlV (mi m 87 b.toNat) b x (mi m 91 b.toNat)) 6
  refine j_iret rfl rfl ?_ rfl (Nat.le_refl _)
  refine ⟨?_, ?_⟩
  · first | rfl | (refine congrArg some (congrArg vI ?_); unfold ptlV; first | (rw [if_pos (by omega)] <;> rfl) | (rw [if_neg (by omega), if_pos (by omega)] <;> rfl) | (rw [if_neg (by omega), if_neg (by omega)] <;> rfl))
  · first | rfl | (unfold ptlT; first | (rw [if_pos (by omega)] <;> rfl) | (rw [if_neg (by omega), if_pos (by omega)] <;> rfl) | (rw [if_neg (by omega), if_neg (by omega)] <;> rfl))

set_option maxRecDepth 20000 in
theorem ct_X12_tells {G : QW} {m : AM} {b x : Int} {n : Nat} (h : AT m n) (hn : n ≤ 20) (hb0 : 0 ≤ b) (hb5 : b ≤ 5) : qM G mX12_tells 8 0 0 [vR 86, vI b, vI x] m (fun r m' => r = some (vI (telV (mi m 87 b.toNat) b x (mi m 91 b.toNat))) ∧ m' = ranL (telT (mi m 87 b.toNat)) m) := by
  refine qM.intro okX12_tells (Nat.le_of_ble_eq_true rfl) ?_
  have l1 := runT_len (mi m 87 b.toNat)
  have l2 := bckT_len (mi m 87 b.toNat)
  have l3 := senT_len (mi m 87 b.toNat)
  have l4 := ptlT_len (mi m 87 b.toNat)
  refine j_aload_n rfl rfl ?_
  refine j_getR (q := 87) rfl f_X12_7 rfl (h.1.lt (by decide)) (h.1.k (by decide) (by decide)) (h.1.r (by decide)) ?_
  refine j_iload_n rfl rfl ?_
  refine j_iald (n := 6) rfl (h.1.lt (by decide)) (h.1.k (by decide) (by decide)) (h.1.n (by decide) (by decide)) (by omega) (by omega) (by decide) ?_
  have u5_1 := mi_rng m 87 b.toNat
  refine j_iconst rfl ?_
  refine j_icmp_ne (tgt := 25) rfl (by decide) (by omega) (by omega) (by omega) (by omega) (fun hb7_1 => ?_) (fun hb7_1 => ?_)
  · skip
    refine j_aload_n rfl rfl ?_
    refine j_getR (q := 87) rfl f_X12_7 rfl (h.1.lt (by decide)) (h.1.k (by decide) (by decide)) (h.1.r (by decide)) ?_
    refine j_iload_n rfl rfl ?_
    refine j_iald (n := 6) rfl (h.1.lt (by decide)) (h.1.k (by decide) (by decide)) (h.1.n (by decide) (by decide)) (by omega) (by omega) (by decide) ?_
    have u30_1 := mi_rng m 87 b.toNat
    refine j_iconst rfl ?_
    refine j_icmp_ne (tgt := 44) rfl (by decide) (by omega) (by omega) (by omega) (by omega) (fun hb32_1 => ?_) (fun hb32_1 => ?_)
    · skip
      refine j_aload_n rfl rfl ?_
      refine j_iload_n rfl rfl ?_
      refine j_iload_n rfl rfl ?_
      refine j_callV (ci := 12) rfl okX12_plainTells c_X12_505 (ct_X12_plainTells h (by first | omega | (simp only [List.length_append, List.length_cons, List.length_nil]; omega)) hb0 hb5) rfl rfl (h.1.lt (by decide)) (h.1.k (by decide) (by decide)) (by decide) rfl (Nat.le_of_ble_eq_true rfl) (by decide) (by decide) ?_
      rintro vq mq ⟨e1, e2⟩
      rw [e1, show mq = ranL (ptlT (mi m 87 b.toNat)) m from e2]
      clear e1 e2
      rw [Option.toList_some, List.singleton_append]
      refine j_iret rfl rfl ?_ rfl (Nat.le_refl _)
      refine ⟨?_, ?_⟩
      · first | rfl | (refine congrArg some (congrArg vI ?_); unfold telV; first | (rw [if_pos (by omega)] <;> rfl) | (rw [if_neg (by omega), if_pos (by omega)] <;> rfl) | (rw [if_neg (by omega), if_neg (by omega)] <;> rfl))
      · first | rfl | (unfold telT; first | (rw [if_pos (by omega)] <;> rfl) | (rw [if_neg (by omega), if_pos (by omega)] <;> rfl) | (rw [if_neg (by omega), if_neg (by omega)] <;> rfl))
    · skip
      refine j_aload_n rfl rfl ?_
      refine j_iload_n rfl rfl ?_
      refine j_iload_n rfl rfl ?_
      refine j_callV (ci := 12) rfl okX12_keptTells c_X12_508 (ct_X12_keptTells h (by first | omega | (simp only [List.length_append, List.length_cons, List.length_nil]; omega)) hb0 hb5) rfl rfl (h.1.lt (by decide)) (h.1.k (by decide) (by decide)) (by decide) rfl (Nat.le_of_ble_eq_true rfl) (by decide) (by decide) ?_
      rintro vq mq ⟨e1, e2⟩
      rw [e1, show mq = ranL ([50] ++ ptlT (mi m 87 b.toNat)) m from e2]
      clear e1 e2
      rw [Option.toList_some, List.singleton_append]
      refine j_goto (tgt := 50) rfl (by decide) ?_
      refine j_iret rfl rfl ?_ rfl (Nat.le_refl _)
      refine ⟨?_, ?_⟩
      · first | rfl | (refine congrArg some (congrArg vI ?_); unfold telV; first | (rw [if_pos (by omega)] <;> rfl) | (rw [if_neg (by omega), if_pos (by omega)] <;> rfl) | (rw [if_neg (by omega), if_neg (by omega)] <;> rfl))
      · first | rfl | (unfold telT; first | (rw [if_pos (by omega)] <;> rfl) | (rw [if_neg (by omega), if_pos (by omega)] <;> rfl) | (rw [if_neg (by omega), if_neg (by omega)] <;> rfl))
  · skip
    refine j_aload_n rfl rfl ?_
    refine j_bipush rfl (by decide) ?_
    refine j_callV (ci := 12) rfl okX12_ran c_X12_481 (ct_X12_ran h (by first | omega | (simp only [List.length_append, List.length_cons, List.length_nil]; omega))) rfl rfl (h.1.lt (by decide)) (h.1.k (by decide) (by decide)) (by decide) rfl (Nat.le_of_ble_eq_true rfl) (by decide) (by decide) ?_
    rintro vq mq ⟨e1, e2⟩
    rw [e1, show mq = ranL [61] m from e2]
    clear e1 e2
    simp only [Option.toList_some, Option.toList_none, List.nil_append]
    refine j_aload_n rfl rfl ?_
    refine j_iload_n rfl rfl ?_
    refine j_iload_n rfl rfl ?_
    refine j_iconst rfl ?_
    refine j_iadd rfl ?_
    refine j_callV (ci := 12) rfl okX12_keptTells c_X12_508 (ct_X12_keptTells (AT.list (n := n) ([61]) h (by first | omega | (simp only [List.length_append, List.length_cons, List.length_nil]; omega))) (by first | omega | (simp only [List.length_append, List.length_cons, List.length_nil]; omega)) hb0 hb5) rfl rfl (((AT.list (n := n) ([61]) h (by first | omega | (simp only [List.length_append, List.length_cons, List.length_nil]; omega)))).1.lt (by decide)) (((AT.list (n := n) ([61]) h (by first | omega | (simp only [List.length_append, List.length_cons, List.length_nil]; omega)))).1.k (by decide) (by decide)) (by decide) rfl (Nat.le_of_ble_eq_true rfl) (by decide) (by decide) ?_
    rintro vq mq ⟨e1, e2⟩
    try simp only [ranL_mi (o := 87) (by decide) (by decide), ranL_mi (o := 91) (by decide) (by decide)] at e1 e2
    rw [e1, show mq = ranL ([61] ++ ([50] ++ ptlT (mi m 87 b.toNat))) m from e2.trans (ranL_app ([61]) ([50] ++ ptlT (mi m 87 b.toNat)) m).symm]
    clear e1 e2
    rw [Option.toList_some, List.singleton_append]
    refine j_iret rfl rfl ?_ rfl (Nat.le_refl _)
    refine ⟨?_, ?_⟩
    · first | rfl | (refine congrArg some (congrArg vI ?_); unfold telV; first | (rw [if_pos (by omega)] <;> rfl) | (rw [if_neg (by omega), if_pos (by omega)] <;> rfl) | (rw [if_neg (by omega), if_neg (by omega)] <;> rfl))
    · first | rfl | (unfold telT; first | (rw [if_pos (by omega)] <;> rfl) | (rw [if_neg (by omega), if_pos (by omega)] <;> rfl) | (rw [if_neg (by omega), if_neg (by omega)] <;> rfl))

def actV (kd b what x ln : Int) : Int := if what = 0 then runV kd b x else if what = 1 then senV kd b x ln else if what = 2 then bckV kd b x else telV kd b x ln
def actT (kd what : Int) : List Int := if what = 0 then runT kd else if what = 1 then senT kd else if what = 2 then bckT kd else telT kd
/-- act() of the reference -/
def actR (m : AM) (b what x : Int) : Int × AM :=
  if (0 ≤ b ∧ b < mi m 86 1) ∧ (0 ≤ what ∧ what ≤ 3) then (actV (mi m 87 b.toNat) b what x (mi m 91 b.toNat), ranL (actT (mi m 87 b.toNat) what) (si m 86 76 0)) else (0, si m 86 76 0)

set_option maxRecDepth 20000 in
set_option maxHeartbeats 4000000 in
theorem ct_X12_act {G : QW} {m : AM} {b what x : Int} (hS : St m) (hI : IM m) (hb1 : -2147483648 ≤ b) (hb2 : b < 2147483648) (hwhat1 : -2147483648 ≤ what) (hwhat2 : what < 2147483648) : qM G mX12_act 9 0 0 [vR 86, vI b, vI what, vI x] m (fun r m' => r = some (vI (actR m b what x).1) ∧ m' = (actR m b what x).2) := by
  refine qM.intro okX12_act (Nat.le_of_ble_eq_true rfl) ?_
  have hbx := hI.s 86 1 0 6 (by decide)
  refine j_aload_n rfl rfl ?_
  refine j_iconst rfl ?_
  refine j_putI rfl f_X12_478 rfl (hS.lt (by decide)) (hS.k (by decide) (by decide)) ?_
  have hI1 : IM (si m 86 76 0) := hI.scal 0 100 (by decide) (by decide) (by decide) (by decide) (by decide) (by decide) (by omega) (by decide)
  have e86 : mi (si m 86 76 0) 86 1 = mi m 86 1 := mi_si_ne _ _ (by decide)
  have e87 : mi (si m 86 76 0) 87 b.toNat = mi m 87 b.toNat := mi_si_ne _ _ (fun q => absurd q.1 (by decide))
  have e91 : mi (si m 86 76 0) 91 b.toNat = mi m 91 b.toNat := mi_si_ne _ _ (fun q => absurd q.1 (by decide))
  have hA : AT (si m 86 76 0) 0 := ⟨hS, by rw [mi_si_same _ _ _ (by decide) (by decide)]; decide, by rw [mi_si_same _ _ _ (by decide) (by decide)]; decide⟩
  refine j_aload_n rfl rfl ?_
  refine j_iload_n rfl rfl ?_
  refine j_callV (ci := 12) rfl okX12_isBox c_X12_198 (ct_X12_isBox (m := si m 86 76 0) hS hI1 (by omega) (by omega)) rfl rfl (hS.lt (by decide)) (hS.k (by decide) (by decide)) (by decide) rfl (Nat.le_of_ble_eq_true rfl) (by decide) (by decide) ?_
  rintro vq mq ⟨e1, e2⟩
  rw [e86] at e1
  rw [e1, e2]
  clear e1 e2
  rw [Option.toList_some, List.singleton_append]
  refine j_bif_eq (tgt := 22) rfl (by decide) (fun hb10_1 => ?_) (fun hb10_1 => ?_)
  · skip
    refine j_iconst rfl ?_
    refine j_iret rfl rfl ?_ rfl (Nat.le_refl _)
    exact ⟨by unfold actR; rw [if_neg (by omega)], by unfold actR; rw [if_neg (by omega)]⟩
  · skip
    refine j_iload_n rfl rfl ?_
    refine j_iconst rfl ?_
    refine j_iconst rfl ?_
    refine j_callS (As := [_, _, _]) rfl okX12_in c_X12_194 (ct_X12_in (by omega) (by omega) (by omega) (by omega) (by omega) (by omega)) rfl rfl (Nat.le_of_ble_eq_true rfl) (by decide) (by decide) ?_
    rintro vq mq ⟨e1, e2⟩
    rw [e1, e2]
    clear e1 e2
    simp only [Option.toList_some, Option.toList_none, List.cons_append, List.nil_append]
    refine j_bif_ne (tgt := 24) rfl (by decide) (fun hb19_1 => ?_) (fun hb19_1 => ?_)
    · skip
      refine j_iload_n rfl rfl ?_
      refine j_if_ne (tgt := 37) rfl (by decide) (by omega) (by omega) (fun hb25_1 => ?_) (fun hb25_1 => ?_)
      · skip
        refine j_iload_n rfl rfl ?_
        refine j_iconst rfl ?_
        refine j_icmp_ne (tgt := 51) rfl (by decide) (by omega) (by omega) (by omega) (by omega) (fun hb39_1 => ?_) (fun hb39_1 => ?_)
        · skip
          refine j_iload_n rfl rfl ?_
          refine j_iconst rfl ?_
          refine j_icmp_ne (tgt := 65) rfl (by decide) (by omega) (by omega) (by omega) (by omega) (fun hb53_1 => ?_) (fun hb53_1 => ?_)
          · skip
            refine j_aload_n rfl rfl ?_
            refine j_iload_n rfl rfl ?_
            refine j_iload_n rfl rfl ?_
            refine j_callV (ci := 12) rfl okX12_tells c_X12_511 (ct_X12_tells hA (by omega) (by omega) (by omega)) rfl rfl (hS.lt (by decide)) (hS.k (by decide) (by decide)) (by decide) rfl (Nat.le_of_ble_eq_true rfl) (by decide) (by decide) ?_
            rintro vq mq ⟨e1, e2⟩
            rw [e87, e91] at e1
            rw [e87] at e2
            rw [e1, e2]
            clear e1 e2
            rw [Option.toList_some, List.singleton_append]
            refine j_iret rfl rfl ?_ rfl (Nat.le_refl _)
            have ec : actR m b what x = (actV (mi m 87 b.toNat) b what x (mi m 91 b.toNat), ranL (actT (mi m 87 b.toNat) what) (si m 86 76 0)) := by unfold actR; rw [if_pos (by omega)]
            rw [ec]
            refine ⟨?_, ?_⟩
            · unfold actV; first | (rw [if_pos (by omega)]; done) | (rw [if_neg (by omega), if_pos (by omega)]; done) | (rw [if_neg (by omega), if_neg (by omega), if_pos (by omega)]; done) | (rw [if_neg (by omega), if_neg (by omega), if_neg (by omega)]; done)
            · unfold actT; first | (rw [if_pos (by omega)]; done) | (rw [if_neg (by omega), if_pos (by omega)]; done) | (rw [if_neg (by omega), if_neg (by omega), if_pos (by omega)]; done) | (rw [if_neg (by omega), if_neg (by omega), if_neg (by omega)]; done)
          · skip
            refine j_aload_n rfl rfl ?_
            refine j_iload_n rfl rfl ?_
            refine j_iload_n rfl rfl ?_
            refine j_callV (ci := 12) rfl okX12_holdsBack c_X12_496 (ct_X12_holdsBack hA (by omega) (by omega) (by omega)) rfl rfl (hS.lt (by decide)) (hS.k (by decide) (by decide)) (by decide) rfl (Nat.le_of_ble_eq_true rfl) (by decide) (by decide) ?_
            rintro vq mq ⟨e1, e2⟩
            rw [e87] at e1
            rw [e87] at e2
            rw [e1, e2]
            clear e1 e2
            rw [Option.toList_some, List.singleton_append]
            refine j_goto (tgt := 71) rfl (by decide) ?_
            refine j_iret rfl rfl ?_ rfl (Nat.le_refl _)
            have ec : actR m b what x = (actV (mi m 87 b.toNat) b what x (mi m 91 b.toNat), ranL (actT (mi m 87 b.toNat) what) (si m 86 76 0)) := by unfold actR; rw [if_pos (by omega)]
            rw [ec]
            refine ⟨?_, ?_⟩
            · unfold actV; first | (rw [if_pos (by omega)]; done) | (rw [if_neg (by omega), if_pos (by omega)]; done) | (rw [if_neg (by omega), if_neg (by omega), if_pos (by omega)]; done) | (rw [if_neg (by omega), if_neg (by omega), if_neg (by omega)]; done)
            · unfold actT; first | (rw [if_pos (by omega)]; done) | (rw [if_neg (by omega), if_pos (by omega)]; done) | (rw [if_neg (by omega), if_neg (by omega), if_pos (by omega)]; done) | (rw [if_neg (by omega), if_neg (by omega), if_neg (by omega)]; done)
        · skip
          refine j_aload_n rfl rfl ?_
          refine j_iload_n rfl rfl ?_
          refine j_iload_n rfl rfl ?_
          refine j_callV (ci := 12) rfl okX12_sends c_X12_502 (ct_X12_sends hA (by omega) (by omega) (by omega)) rfl rfl (hS.lt (by decide)) (hS.k (by decide) (by decide)) (by decide) rfl (Nat.le_of_ble_eq_true rfl) (by decide) (by decide) ?_
          rintro vq mq ⟨e1, e2⟩
          rw [e87, e91] at e1
          rw [e87] at e2
          rw [e1, e2]
          clear e1 e2
          rw [Option.toList_some, List.singleton_append]
          refine j_goto (tgt := 71) rfl (by decide) ?_
          refine j_iret rfl rfl ?_ rfl (Nat.le_refl _)
          have ec : actR m b what x = (actV (mi m 87 b.toNat) b what x (mi m 91 b.toNat), ranL (actT (mi m 87 b.toNat) what) (si m 86 76 0)) := by unfold actR; rw [if_pos (by omega)]
          rw [ec]
          refine ⟨?_, ?_⟩
          · unfold actV; first | (rw [if_pos (by omega)]; done) | (rw [if_neg (by omega), if_pos (by omega)]; done) | (rw [if_neg (by omega), if_neg (by omega), if_pos (by omega)]; done) | (rw [if_neg (by omega), if_neg (by omega), if_neg (by omega)]; done)
          · unfold actT; first | (rw [if_pos (by omega)]; done) | (rw [if_neg (by omega), if_pos (by omega)]; done) | (rw [if_neg (by omega), if_neg (by omega), if_pos (by omega)]; done) | (rw [if_neg (by omega), if_neg (by omega), if_neg (by omega)]; done)
      · skip
        refine j_aload_n rfl rfl ?_
        refine j_iload_n rfl rfl ?_
        refine j_iload_n rfl rfl ?_
        refine j_callV (ci := 12) rfl okX12_runs c_X12_490 (ct_X12_runs hA (by omega) (by omega) (by omega)) rfl rfl (hS.lt (by decide)) (hS.k (by decide) (by decide)) (by decide) rfl (Nat.le_of_ble_eq_true rfl) (by decide) (by decide) ?_
        rintro vq mq ⟨e1, e2⟩
        rw [e87] at e1
        rw [e87] at e2
        rw [e1, e2]
        clear e1 e2
        rw [Option.toList_some, List.singleton_append]
        refine j_goto (tgt := 71) rfl (by decide) ?_
        refine j_iret rfl rfl ?_ rfl (Nat.le_refl _)
        have ec : actR m b what x = (actV (mi m 87 b.toNat) b what x (mi m 91 b.toNat), ranL (actT (mi m 87 b.toNat) what) (si m 86 76 0)) := by unfold actR; rw [if_pos (by omega)]
        rw [ec]
        refine ⟨?_, ?_⟩
        · unfold actV; first | (rw [if_pos (by omega)]; done) | (rw [if_neg (by omega), if_pos (by omega)]; done) | (rw [if_neg (by omega), if_neg (by omega), if_pos (by omega)]; done) | (rw [if_neg (by omega), if_neg (by omega), if_neg (by omega)]; done)
        · unfold actT; first | (rw [if_pos (by omega)]; done) | (rw [if_neg (by omega), if_pos (by omega)]; done) | (rw [if_neg (by omega), if_neg (by omega), if_pos (by omega)]; done) | (rw [if_neg (by omega), if_neg (by omega), if_neg (by omega)]; done)
    · skip
      refine j_iconst rfl ?_
      refine j_iret rfl rfl ?_ rfl (Nat.le_refl _)
      exact ⟨by unfold actR; rw [if_neg (by omega)], by unfold actR; rw [if_neg (by omega)]⟩


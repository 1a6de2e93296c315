/-- how many of the first n are not 0 -/
def cntI (f : Nat → Int) : Nat → Int
  | 0 => 0
  | n + 1 => cntI f n + (if f n ≠ 0 then 1 else 0)
theorem cntI_rng (f : Nat → Int) : ∀ n : Nat, 0 ≤ cntI f n ∧ cntI f n ≤ n := by
  intro n
  induction n with
  | zero => exact ⟨Int.le_refl _, Int.le_refl _⟩
  | succ n ih =>
    unfold cntI
    split <;> omega
theorem cntI_up {f : Nat → Int} {s : Int} (h : 0 ≤ s) : cntI f (s + 1).toNat = cntI f s.toNat + (if f s.toNat ≠ 0 then 1 else 0) := by
  rw [show (s + 1).toNat = s.toNat + 1 by omega]
  rfl

set_option maxRecDepth 20000 in
set_option maxHeartbeats 4000000 in
theorem lp_X12_run_42 {G : QW} {R : Room} {F : QFin} {cc cs : Nat} {m : AM} (hS : St m) {f n : Int} (hexit : qJ G mX12_run R F 66 [(0, vR 86), (1, vI f), (2, vI n)] [] (cpr m 116 106 48) cc cs) : ∀ (fuel : Nat) (s : Int), 0 ≤ s → s ≤ 48 → 48 - s < fuel → qJ G mX12_run R F 42 [(0, vR 86), (1, vI f), (2, vI n), (3, vI s)] [] (cpr m 116 106 s) cc cs := by
  intro fuel
  induction fuel with
  | zero => intro s h1 h2 h3; omega
  | succ fuel ih =>
    intro s hv1 hv2 hv3
    refine j_iload_n rfl rfl ?_
    refine j_bipush rfl (by decide) ?_
    refine j_icmp_ge (tgt := 66) rfl (by decide) (by omega) (by omega) (by omega) (by omega) (fun hb45_1 => ?_) (fun hb45_1 => ?_)
    · skip
      have he : s = 48 := by omega
      rw [he]
      refine j_loc (ls' := [(0, vR 86), (1, vI f), (2, vI n)]) rfl ?_
      exact hexit
    · skip
      refine j_aload_n rfl rfl ?_
      refine j_getR (q := 116) rfl f_X12_100 rfl (hS.lt (by decide)) (hS.k (by decide) (by decide)) (hS.r (by decide)) ?_
      refine j_iload_n rfl rfl ?_
      refine j_aload_n rfl rfl ?_
      refine j_getR (q := 106) rfl f_X12_69 rfl (hS.lt (by decide)) (hS.k (by decide) (by decide)) (hS.r (by decide)) ?_
      refine j_iload_n rfl rfl ?_
      refine j_iald (n := 48) rfl (hS.lt (by decide)) (hS.k (by decide) (by decide)) (hS.n (by decide) (by decide)) (by omega) (by omega) (by decide) ?_
      rw [show mi (cpr m 116 106 s) 106 s.toNat = mi m 106 s.toNat from by simp [mi_si, mi_fil, mi_cpr, mi_sl, mi_sr, ml_sl, ml_si, ml_sr, ml_fil, ml_cpr]]
      have u58_1 := mi_rng m 106 s.toNat
      refine j_iast (n := 48) rfl (hS.lt (by decide)) (hS.k (by decide) (by decide)) (hS.n (by decide) (by decide)) (by omega) (by omega) (by first | decide | omega) ?_
      refine j_iinc rfl rfl (by decide) ?_
      refine j_goto (tgt := 42) rfl (by decide) ?_
      refine j_loc (ls' := [(0, vR 86), (1, vI f), (2, vI n), (3, vI (s + 1))]) rfl ?_
      rw [cpr_si (m := m) (o1 := 116) (o0 := 106) (e := s) (v := mi m 106 s.toNat) (by omega) rfl (by first | rfl | simp [mi_cpr])]
      exact ih (s + 1) (by omega) (by omega) (by omega)

set_option maxRecDepth 20000 in
set_option maxHeartbeats 4000000 in
theorem lp_X12_run_68 {G : QW} {R : Room} {F : QFin} {cc cs : Nat} {m : AM} (hS : St m) {f n : Int} (hexit : qJ G mX12_run R F 104 [(0, vR 86), (1, vI f), (2, vI n)] [] (cpr (cpr m 117 107 24) 118 108 24) cc cs) : ∀ (fuel : Nat) (s : Int), 0 ≤ s → s ≤ 24 → 24 - s < fuel → qJ G mX12_run R F 68 [(0, vR 86), (1, vI f), (2, vI n), (3, vI s)] [] (cpr (cpr m 117 107 s) 118 108 s) cc cs := by
  intro fuel
  induction fuel with
  | zero => intro s h1 h2 h3; omega
  | succ fuel ih =>
    intro s hv1 hv2 hv3
    refine j_iload_n rfl rfl ?_
    refine j_bipush rfl (by decide) ?_
    refine j_icmp_ge (tgt := 104) rfl (by decide) (by omega) (by omega) (by omega) (by omega) (fun hb71_1 => ?_) (fun hb71_1 => ?_)
    · skip
      have he : s = 24 := by omega
      rw [he]
      refine j_loc (ls' := [(0, vR 86), (1, vI f), (2, vI n)]) rfl ?_
      exact hexit
    · skip
      refine j_aload_n rfl rfl ?_
      refine j_getR (q := 117) rfl f_X12_103 rfl (hS.lt (by decide)) (hS.k (by decide) (by decide)) (hS.r (by decide)) ?_
      refine j_iload_n rfl rfl ?_
      refine j_aload_n rfl rfl ?_
      refine j_getR (q := 107) rfl f_X12_72 rfl (hS.lt (by decide)) (hS.k (by decide) (by decide)) (hS.r (by decide)) ?_
      refine j_iload_n rfl rfl ?_
      refine j_iald (n := 24) rfl (hS.lt (by decide)) (hS.k (by decide) (by decide)) (hS.n (by decide) (by decide)) (by omega) (by omega) (by decide) ?_
      rw [show mi (cpr (cpr m 117 107 s) 118 108 s) 107 s.toNat = mi m 107 s.toNat from by simp [mi_si, mi_fil, mi_cpr, mi_sl, mi_sr, ml_sl, ml_si, ml_sr, ml_fil, ml_cpr]]
      have u84_1 := mi_rng m 107 s.toNat
      refine j_iast (n := 24) rfl (hS.lt (by decide)) (hS.k (by decide) (by decide)) (hS.n (by decide) (by decide)) (by omega) (by omega) (by first | decide | omega) ?_
      refine j_aload_n rfl rfl ?_
      refine j_getR (q := 118) rfl f_X12_106 rfl (hS.lt (by decide)) (hS.k (by decide) (by decide)) (hS.r (by decide)) ?_
      refine j_iload_n rfl rfl ?_
      refine j_aload_n rfl rfl ?_
      refine j_getR (q := 108) rfl f_X12_75 rfl (hS.lt (by decide)) (hS.k (by decide) (by decide)) (hS.r (by decide)) ?_
      refine j_iload_n rfl rfl ?_
      refine j_iald (n := 24) rfl (hS.lt (by decide)) (hS.k (by decide) (by decide)) (hS.n (by decide) (by decide)) (by omega) (by omega) (by decide) ?_
      rw [show mi (si (cpr (cpr m 117 107 s) 118 108 s) 117 s.toNat (mi m 107 s.toNat)) 108 s.toNat = mi m 108 s.toNat from by simp [mi_si, mi_fil, mi_cpr, mi_sl, mi_sr, ml_sl, ml_si, ml_sr, ml_fil, ml_cpr]]
      have u96_1 := mi_rng m 108 s.toNat
      refine j_iast (n := 24) rfl (hS.lt (by decide)) (hS.k (by decide) (by decide)) (hS.n (by decide) (by decide)) (by omega) (by omega) (by first | decide | omega) ?_
      refine j_iinc rfl rfl (by decide) ?_
      refine j_goto (tgt := 68) rfl (by decide) ?_
      refine j_loc (ls' := [(0, vR 86), (1, vI f), (2, vI n), (3, vI (s + 1))]) rfl ?_
      rw [si_cpr (by decide) (by decide), cpr_si (m := m) (o1 := 117) (o0 := 107) (e := s) (v := mi m 107 s.toNat) (by omega) rfl (by first | rfl | simp [mi_cpr]), cpr_si (m := (cpr m 117 107 (s + 1))) (o1 := 118) (o0 := 108) (e := s) (v := mi m 108 s.toNat) (by omega) rfl (by first | rfl | simp [mi_cpr])]
      exact ih (s + 1) (by omega) (by omega) (by omega)

set_option maxRecDepth 20000 in
set_option maxHeartbeats 4000000 in
theorem lp_X12_run_109 {G : QW} {R : Room} {F : QFin} {cc cs : Nat} {m : AM} {f n : Int} (hS : St m) (hd : ∀ j : Nat, 0 ≤ mi m 111 j ∧ mi m 111 j ≤ 1) (hexit : qJ G mX12_run R F 182 [(0, vR 86), (1, vI f), (2, vI n), (3, vI (cntI (mi m 111) 6))] [] (cpr (cpr (cpr m 119 111 6) 120 112 6) 121 113 6) cc cs) : ∀ (fuel : Nat) (s : Int), 0 ≤ s → s ≤ 6 → 6 - s < fuel → qJ G mX12_run R F 109 [(0, vR 86), (1, vI f), (2, vI n), (3, vI (cntI (mi m 111) s.toNat)), (4, vI s)] [] (cpr (cpr (cpr m 119 111 s) 120 112 s) 121 113 s) cc cs := by
  intro fuel
  induction fuel with
  | zero => intro s h1 h2 h3; omega
  | succ fuel ih =>
    intro s hv1 hv2 hv3
    have hcr := cntI_rng (mi m 111) s.toNat
    have hd0 := hd s.toNat
    refine j_iload rfl rfl ?_
    refine j_bipush rfl (by decide) ?_
    refine j_icmp_ge (tgt := 182) rfl (by decide) (by omega) (by omega) (by omega) (by omega) (fun hb113_1 => ?_) (fun hb113_1 => ?_)
    · skip
      have he : s = 6 := by omega
      subst he
      refine j_loc (ls' := [(0, vR 86), (1, vI f), (2, vI n), (3, vI (cntI (mi m 111) 6))]) rfl ?_
      exact hexit
    · skip
      refine j_aload_n rfl rfl ?_
      refine j_getR (q := 119) rfl f_X12_109 rfl (hS.lt (by decide)) (hS.k (by decide) (by decide)) (hS.r (by decide)) ?_
      refine j_iload rfl rfl ?_
      refine j_aload_n rfl rfl ?_
      refine j_getR (q := 111) rfl f_X12_84 rfl (hS.lt (by decide)) (hS.k (by decide) (by decide)) (hS.r (by decide)) ?_
      refine j_iload rfl rfl ?_
      refine j_zald (n := 6) rfl (hS.lt (by decide)) (hS.k (by decide) (by decide)) (hS.n (by decide) (by decide)) (by omega) (by omega) (by decide) ?_
      rw [show mi (cpr (cpr (cpr m 119 111 s) 120 112 s) 121 113 s) 111 s.toNat = mi m 111 s.toNat from by simp [mi_si, mi_fil, mi_cpr, mi_sl, mi_sr, ml_sl, ml_si, ml_sr, ml_fil, ml_cpr]]
      have u128_1 := mi_rng m 111 s.toNat
      refine j_zast (n := 6) rfl (hS.lt (by decide)) (hS.k (by decide) (by decide)) (hS.n (by decide) (by decide)) (by omega) (by omega) (by first | decide | omega) (by omega) ?_
      refine j_aload_n rfl rfl ?_
      refine j_getR (q := 120) rfl f_X12_112 rfl (hS.lt (by decide)) (hS.k (by decide) (by decide)) (hS.r (by decide)) ?_
      refine j_iload rfl rfl ?_
      refine j_aload_n rfl rfl ?_
      refine j_getR (q := 112) rfl f_X12_87 rfl (hS.lt (by decide)) (hS.k (by decide) (by decide)) (hS.r (by decide)) ?_
      refine j_iload rfl rfl ?_
      refine j_iald (n := 6) rfl (hS.lt (by decide)) (hS.k (by decide) (by decide)) (hS.n (by decide) (by decide)) (by omega) (by omega) (by decide) ?_
      rw [show mi (si (cpr (cpr (cpr m 119 111 s) 120 112 s) 121 113 s) 119 s.toNat (mi m 111 s.toNat)) 112 s.toNat = mi m 112 s.toNat from by simp [mi_si, mi_fil, mi_cpr, mi_sl, mi_sr, ml_sl, ml_si, ml_sr, ml_fil, ml_cpr]]
      have u142_1 := mi_rng m 112 s.toNat
      refine j_iast (n := 6) rfl (hS.lt (by decide)) (hS.k (by decide) (by decide)) (hS.n (by decide) (by decide)) (by omega) (by omega) (by first | decide | omega) ?_
      refine j_aload_n rfl rfl ?_
      refine j_getR (q := 121) rfl f_X12_115 rfl (hS.lt (by decide)) (hS.k (by decide) (by decide)) (hS.r (by decide)) ?_
      refine j_iload rfl rfl ?_
      refine j_aload_n rfl rfl ?_
      refine j_getR (q := 113) rfl f_X12_90 rfl (hS.lt (by decide)) (hS.k (by decide) (by decide)) (hS.r (by decide)) ?_
      refine j_iload rfl rfl ?_
      refine j_iald (n := 6) rfl (hS.lt (by decide)) (hS.k (by decide) (by decide)) (hS.n (by decide) (by decide)) (by omega) (by omega) (by decide) ?_
      rw [show mi (si (si (cpr (cpr (cpr m 119 111 s) 120 112 s) 121 113 s) 119 s.toNat (mi m 111 s.toNat)) 120 s.toNat (mi m 112 s.toNat)) 113 s.toNat = mi m 113 s.toNat from by simp [mi_si, mi_fil, mi_cpr, mi_sl, mi_sr, ml_sl, ml_si, ml_sr, ml_fil, ml_cpr]]
      have u156_1 := mi_rng m 113 s.toNat
      refine j_iast (n := 6) rfl (hS.lt (by decide)) (hS.k (by decide) (by decide)) (hS.n (by decide) (by decide)) (by omega) (by omega) (by first | decide | omega) ?_
      refine j_iload_n rfl rfl ?_
      refine j_aload_n rfl rfl ?_
      refine j_getR (q := 111) rfl f_X12_84 rfl (hS.lt (by decide)) (hS.k (by decide) (by decide)) (hS.r (by decide)) ?_
      refine j_iload rfl rfl ?_
      refine j_zald (n := 6) rfl (hS.lt (by decide)) (hS.k (by decide) (by decide)) (hS.n (by decide) (by decide)) (by omega) (by omega) (by decide) ?_
      rw [show mi (si (si (si (cpr (cpr (cpr m 119 111 s) 120 112 s) 121 113 s) 119 s.toNat (mi m 111 s.toNat)) 120 s.toNat (mi m 112 s.toNat)) 121 s.toNat (mi m 113 s.toNat)) 111 s.toNat = mi m 111 s.toNat from by simp [mi_si, mi_fil, mi_cpr, mi_sl, mi_sr, ml_sl, ml_si, ml_sr, ml_fil, ml_cpr]]
      have u165_1 := mi_rng m 111 s.toNat
      refine j_if_eq (tgt := 173) rfl (by decide) (by omega) (by omega) (fun hb166_1 => ?_) (fun hb166_1 => ?_)
      · skip
        refine j_iconst rfl ?_
        refine j_iadd rfl ?_
        refine j_istore_n rfl (by decide) ?_
        refine j_iinc rfl rfl (by decide) ?_
        refine j_goto (tgt := 109) rfl (by decide) ?_
        have hcu : (cntI (mi m 111) s.toNat) + 0 = cntI (mi m 111) (s + 1).toNat := by rw [cntI_up (by omega)]; first | (rw [if_pos (by omega)]; done) | (rw [if_neg (by omega)]; done)
        rw [hcu]
        refine j_loc (ls' := [(0, vR 86), (1, vI f), (2, vI n), (3, vI (cntI (mi m 111) (s + 1).toNat)), (4, vI (s + 1))]) rfl ?_
        rw [si_cpr (o := 119) (o1 := 121) (by decide) (by decide), si_cpr (o := 119) (o1 := 120) (by decide) (by decide), cpr_si (m := m) (o1 := 119) (o0 := 111) (e := s) (v := mi m 111 s.toNat) (by omega) rfl (by first | rfl | simp [mi_cpr]), si_cpr (o := 120) (o1 := 121) (by decide) (by decide), cpr_si (m := (cpr m 119 111 (s + 1))) (o1 := 120) (o0 := 112) (e := s) (v := mi m 112 s.toNat) (by omega) rfl (by first | rfl | simp [mi_cpr]), cpr_si (m := (cpr (cpr m 119 111 (s + 1)) 120 112 (s + 1))) (o1 := 121) (o0 := 113) (e := s) (v := mi m 113 s.toNat) (by omega) rfl (by first | rfl | simp [mi_cpr])]
        exact ih (s + 1) (by omega) (by omega) (by omega)
      · skip
        refine j_iconst rfl ?_
        refine j_goto (tgt := 174) rfl (by decide) ?_
        refine j_iadd rfl ?_
        refine j_istore_n rfl (by decide) ?_
        refine j_iinc rfl rfl (by decide) ?_
        refine j_goto (tgt := 109) rfl (by decide) ?_
        have hcu : (cntI (mi m 111) s.toNat) + 1 = cntI (mi m 111) (s + 1).toNat := by rw [cntI_up (by omega)]; first | (rw [if_pos (by omega)]; done) | (rw [if_neg (by omega)]; done)
        rw [hcu]
        refine j_loc (ls' := [(0, vR 86), (1, vI f), (2, vI n), (3, vI (cntI (mi m 111) (s + 1).toNat)), (4, vI (s + 1))]) rfl ?_
        rw [si_cpr (o := 119) (o1 := 121) (by decide) (by decide), si_cpr (o := 119) (o1 := 120) (by decide) (by decide), cpr_si (m := m) (o1 := 119) (o0 := 111) (e := s) (v := mi m 111 s.toNat) (by omega) rfl (by first | rfl | simp [mi_cpr]), si_cpr (o := 120) (o1 := 121) (by decide) (by decide), cpr_si (m := (cpr m 119 111 (s + 1))) (o1 := 120) (o0 := 112) (e := s) (v := mi m 112 s.toNat) (by omega) rfl (by first | rfl | simp [mi_cpr]), cpr_si (m := (cpr (cpr m 119 111 (s + 1)) 120 112 (s + 1))) (o1 := 121) (o0 := 113) (e := s) (v := mi m 113 s.toNat) (by omega) rfl (by first | rfl | simp [mi_cpr])]
        exact ih (s + 1) (by omega) (by omega) (by omega)

/-- what run() keeps of a run -/
def rnK (m : AM) : AM :=
  (si (si (si (si (cpr (cpr (cpr (cpr (cpr (cpr (si (si m 86 50 1) 86 51 (mi m 86 1)) 116 106 48) 117 107 24) 118 108 24) 119 111 6) 120 112 6) 121 113 6) 122 (0 : Int).toNat (mi m 86 35)) 122 (1 : Int).toNat (mi m 86 36)) 122 (2 : Int).toNat (mi m 86 37)) 122 (3 : Int).toNat (mi m 86 38))

set_option maxRecDepth 20000 in
set_option maxHeartbeats 4000000 in
theorem lp_X12_run_27 {G : QW} {m : AM} {f n : Int} {Rp : Option Vl → AM → Prop} (hS : St m) (hI : IM m) (hd : ∀ j : Nat, 0 ≤ mi m 111 j ∧ mi m 111 j ≤ 1) (hfin : Rp (some (vI (cntI (mi m 111) 6))) (rnK m)) : qJ G mX12_run { frames := 6, cells := 0, slots := 0, locals := 60 * 6 } (qF G Rp 0 0) 27 [(0, vR 86), (1, vI f), (2, vI n)] [] m 0 0 := by
  have hcr := cntI_rng (mi m 111) 6
  refine j_aload_n rfl rfl ?_
  refine j_iconst rfl ?_
  refine j_putZ rfl f_X12_392 (by omega) rfl (hS.lt (by decide)) (hS.k (by decide) (by decide)) ?_
  refine j_aload_n rfl rfl ?_
  refine j_aload_n rfl rfl ?_
  refine j_getI rfl f_X12_191 rfl (hS.lt (by decide)) (hS.k (by decide) (by decide)) ?_
  rw [show mi (si m 86 50 1) 86 1 = mi m 86 1 from by simp [mi_si, mi_fil, mi_cpr, mi_sl, mi_sr]]
  have u34_1 := hI.s 86 1 (0) 6 (by decide)
  refine j_putI rfl f_X12_396 rfl (hS.lt (by decide)) (hS.k (by decide) (by decide)) ?_
  refine j_iconst rfl ?_
  refine j_istore_n rfl (by decide) ?_
  refine j_loc (ls' := [(0, vR 86), (1, vI f), (2, vI n), (3, vI 0)]) rfl ?_
  refine qJ_mem (m' := (cpr (si (si m 86 50 1) 86 51 (mi m 86 1)) 116 106 0)) (by simp only [cpr_0 _ _ _ (Int.le_refl _)]) ?_
  refine lp_X12_run_42 (m := (si (si m 86 50 1) 86 51 (mi m 86 1))) hS ?_ 49 0 (by decide) (by decide) (by decide)
  refine j_iconst rfl ?_
  refine j_istore_n rfl (by decide) ?_
  refine j_loc (ls' := [(0, vR 86), (1, vI f), (2, vI n), (3, vI 0)]) rfl ?_
  refine qJ_mem (m' := (cpr (cpr (cpr (si (si m 86 50 1) 86 51 (mi m 86 1)) 116 106 48) 117 107 0) 118 108 0)) (by simp only [cpr_0 _ _ _ (Int.le_refl _)]) ?_
  refine lp_X12_run_68 (m := (cpr (si (si m 86 50 1) 86 51 (mi m 86 1)) 116 106 48)) hS ?_ 25 0 (by decide) (by decide) (by decide)
  refine j_iconst rfl ?_
  refine j_istore_n rfl (by decide) ?_
  refine j_iconst rfl ?_
  refine j_istore rfl (by decide) ?_
  refine j_loc (ls' := [(0, vR 86), (1, vI f), (2, vI n), (3, vI 0), (4, vI 0)]) rfl ?_
  refine qJ_mem (m' := (cpr (cpr (cpr (cpr (cpr (cpr (si (si m 86 50 1) 86 51 (mi m 86 1)) 116 106 48) 117 107 24) 118 108 24) 119 111 0) 120 112 0) 121 113 0)) (by simp only [cpr_0 _ _ _ (Int.le_refl _)]) ?_
  have hcm : mi (cpr (cpr (cpr (si (si m 86 50 1) 86 51 (mi m 86 1)) 116 106 48) 117 107 24) 118 108 24) 111 = mi m 111 := by funext j; simp [mi_cpr, mi_si]
  refine lp_X12_run_109 (m := (cpr (cpr (cpr (si (si m 86 50 1) 86 51 (mi m 86 1)) 116 106 48) 117 107 24) 118 108 24)) hS (by rw [hcm]; exact hd) ?_ 7 0 (by decide) (by decide) (by decide)
  rw [hcm]
  refine j_aload_n rfl rfl ?_
  refine j_getR (q := 122) rfl f_X12_118 rfl (hS.lt (by decide)) (hS.k (by decide) (by decide)) (hS.r (by decide)) ?_
  refine j_iconst rfl ?_
  refine j_aload_n rfl rfl ?_
  refine j_getI rfl f_X12_352 rfl (hS.lt (by decide)) (hS.k (by decide) (by decide)) ?_
  rw [show mi (cpr (cpr (cpr (cpr (cpr (cpr (si (si m 86 50 1) 86 51 (mi m 86 1)) 116 106 48) 117 107 24) 118 108 24) 119 111 6) 120 112 6) 121 113 6) 86 35 = mi m 86 35 from by simp [mi_si, mi_fil, mi_cpr, mi_sl, mi_sr]]
  have u188_1 := mi_rng m 86 35
  refine j_iast (n := 4) rfl (hS.lt (by decide)) (hS.k (by decide) (by decide)) (hS.n (by decide) (by decide)) (by omega) (by omega) (by first | decide | omega) ?_
  refine j_aload_n rfl rfl ?_
  refine j_getR (q := 122) rfl f_X12_118 rfl (hS.lt (by decide)) (hS.k (by decide) (by decide)) (hS.r (by decide)) ?_
  refine j_iconst rfl ?_
  refine j_aload_n rfl rfl ?_
  refine j_getI rfl f_X12_355 rfl (hS.lt (by decide)) (hS.k (by decide) (by decide)) ?_
  rw [show mi (si (cpr (cpr (cpr (cpr (cpr (cpr (si (si m 86 50 1) 86 51 (mi m 86 1)) 116 106 48) 117 107 24) 118 108 24) 119 111 6) 120 112 6) 121 113 6) 122 (0 : Int).toNat (mi m 86 35)) 86 36 = mi m 86 36 from by simp [mi_si, mi_fil, mi_cpr, mi_sl, mi_sr]]
  have u198_1 := mi_rng m 86 36
  refine j_iast (n := 4) rfl (hS.lt (by decide)) (hS.k (by decide) (by decide)) (hS.n (by decide) (by decide)) (by omega) (by omega) (by first | decide | omega) ?_
  refine j_aload_n rfl rfl ?_
  refine j_getR (q := 122) rfl f_X12_118 rfl (hS.lt (by decide)) (hS.k (by decide) (by decide)) (hS.r (by decide)) ?_
  refine j_iconst rfl ?_
  refine j_aload_n rfl rfl ?_
  refine j_getI rfl f_X12_358 rfl (hS.lt (by decide)) (hS.k (by decide) (by decide)) ?_
  rw [show mi (si (si (cpr (cpr (cpr (cpr (cpr (cpr (si (si m 86 50 1) 86 51 (mi m 86 1)) 116 106 48) 117 107 24) 118 108 24) 119 111 6) 120 112 6) 121 113 6) 122 (0 : Int).toNat (mi m 86 35)) 122 (1 : Int).toNat (mi m 86 36)) 86 37 = mi m 86 37 from by simp [mi_si, mi_fil, mi_cpr, mi_sl, mi_sr]]
  have u208_1 := mi_rng m 86 37
  refine j_iast (n := 4) rfl (hS.lt (by decide)) (hS.k (by decide) (by decide)) (hS.n (by decide) (by decide)) (by omega) (by omega) (by first | decide | omega) ?_
  refine j_aload_n rfl rfl ?_
  refine j_getR (q := 122) rfl f_X12_118 rfl (hS.lt (by decide)) (hS.k (by decide) (by decide)) (hS.r (by decide)) ?_
  refine j_iconst rfl ?_
  refine j_aload_n rfl rfl ?_
  refine j_getI rfl f_X12_361 rfl (hS.lt (by decide)) (hS.k (by decide) (by decide)) ?_
  rw [show mi (si (si (si (cpr (cpr (cpr (cpr (cpr (cpr (si (si m 86 50 1) 86 51 (mi m 86 1)) 116 106 48) 117 107 24) 118 108 24) 119 111 6) 120 112 6) 121 113 6) 122 (0 : Int).toNat (mi m 86 35)) 122 (1 : Int).toNat (mi m 86 36)) 122 (2 : Int).toNat (mi m 86 37)) 86 38 = mi m 86 38 from by simp [mi_si, mi_fil, mi_cpr, mi_sl, mi_sr]]
  have u218_1 := mi_rng m 86 38
  refine j_iast (n := 4) rfl (hS.lt (by decide)) (hS.k (by decide) (by decide)) (hS.n (by decide) (by decide)) (by omega) (by omega) (by first | decide | omega) ?_
  refine j_iload_n rfl rfl ?_
  refine j_iret rfl rfl ?_ rfl (Nat.le_refl _)
  exact hfin

theorem rnK_same {m M : AM} (h : SameP m M) : SameP (rnK m) (rnK M) := by
  obtain ⟨L, rfl⟩ := h.ex
  exact ⟨rfl, rfl, h.2.2⟩
/-- run() of the reference: the answer, the memory -/
def runR (m : AM) (f n : Int) : Int × AM := if (0 ≤ f ∧ f < mi m 86 21) ∧ (1 ≤ n ∧ n ≤ 200) then (cntI (mi (roM (aiM m) f n) 111) 6, rnK (roM (aiM m) f n)) else (-1, m)

set_option maxRecDepth 20000 in
set_option maxHeartbeats 4000000 in
theorem ct_X12_run {G : QW} {m : AM} {f n : Int} (h : RI m) (hf1 : -2147483648 ≤ f) (hf2 : f < 2147483648) (hn1 : -2147483648 ≤ n) (hn2 : n < 2147483648) : qM G mX12_run 6 0 0 [vR 86, vI f, vI n] m (fun r m' => r = some (vI (runR m f n).1) ∧ SameP (runR m f n).2 m') := by
  refine qM.intro okX12_run (Nat.le_of_ble_eq_true rfl) ?_
  have hS := h.s
  have hI := h.i
  have hfl := hI.s 86 21 0 8 (by decide)
  refine j_aload_n rfl rfl ?_
  refine j_iload_n rfl rfl ?_
  refine j_callV (ci := 12) rfl okX12_isFlight c_X12_270 (ct_X12_isFlight hS hI (by omega) (by omega)) rfl rfl (hS.lt (by decide)) (hS.k (by decide) (by decide)) (by decide) rfl (Nat.le_of_ble_eq_true rfl) (by decide) (by decide) ?_
  rintro vq mq ⟨e1, e2⟩
  rw [e1, e2]
  clear e1 e2
  simp only [Option.toList_some, Option.toList_none, List.cons_append, List.nil_append]
  have w1 := hI.s 86 21 (0) 8 (by decide)
  refine j_bif_eq (tgt := 15) rfl (by decide) (fun hb5_1 => ?_) (fun hb5_1 => ?_)
  · skip
    refine j_iconst rfl ?_
    refine j_iret rfl rfl ?_ rfl (Nat.le_refl _)
    exact ⟨by unfold runR; rw [if_neg (by omega)], by unfold runR; rw [if_neg (by omega)]; exact SameP.rf m⟩
  · skip
    refine j_iload_n rfl rfl ?_
    refine j_callS (As := [_]) rfl okX12_isTicks c_X12_383 (ct_X12_isTicks (by omega) (by omega)) rfl rfl (Nat.le_of_ble_eq_true rfl) (by decide) (by decide) ?_
    rintro vq mq ⟨e1, e2⟩
    rw [e1, e2]
    clear e1 e2
    simp only [Option.toList_some, Option.toList_none, List.cons_append, List.nil_append]
    refine j_bif_ne (tgt := 17) rfl (by decide) (fun hb12_1 => ?_) (fun hb12_1 => ?_)
    · skip
      refine j_aload_n rfl rfl ?_
      refine j_callV (ci := 12) rfl okX12_asItIs c_X12_386 (ct_X12_asIs h) rfl rfl (hS.lt (by decide)) (hS.k (by decide) (by decide)) (by decide) rfl (Nat.le_of_ble_eq_true rfl) (by decide) (by decide) ?_
      rintro vq mq ⟨e1, e2⟩
      rw [e1, e2]
      clear e1 e2
      simp only [Option.toList_some, Option.toList_none, List.cons_append, List.nil_append]
      refine j_aload_n rfl rfl ?_
      refine j_iload_n rfl rfl ?_
      refine j_iload_n rfl rfl ?_
      refine j_callV (ci := 12) rfl okX12_runOf c_X12_389 (ct_X12_runOfI h.asIs (by omega) (by omega) (by omega) (by omega)) rfl rfl (hS.lt (by decide)) (hS.k (by decide) (by decide)) (by decide) rfl (Nat.le_of_ble_eq_true rfl) (by decide) (by decide) ?_
      rintro vq M ⟨e1, hs⟩
      rw [e1]
      clear e1
      simp only [Option.toList_some, Option.toList_none, List.cons_append, List.nil_append]
      have hRM := (h.asIs.run (f := f) (n := n) (by omega) (by omega)).of hs
      have e2 : mi M 111 = mi (roM (aiM m) f n) 111 := funext fun j => hs.mi 111 j
      refine lp_X12_run_27 hRM.s hRM.i hRM.2.1.1 ?_
      rw [e2]
      exact ⟨by unfold runR; rw [if_pos (by omega)], by unfold runR; rw [if_pos (by omega)]; exact rnK_same hs⟩
    · skip
      refine j_iconst rfl ?_
      refine j_iret rfl rfl ?_ rfl (Nat.le_refl _)
      exact ⟨by unfold runR; rw [if_neg (by omega)], by unfold runR; rw [if_neg (by omega)]; exact SameP.rf m⟩


def cpA (m : AM) : AM := (cpr (cpr m 109 107 24) 110 108 24)
theorem cpA_mi (m : AM) {o : Nat} (h : o ≠ 109) (h2 : o ≠ 110) (j : Nat) : mi (cpA m) o j = mi m o j := by
  unfold cpA
  rw [mi_cpr, if_neg (fun q => h2 q.1), mi_cpr, if_neg (fun q => h q.1)]
theorem cpA_Fr (m : AM) : Fr m (cpA m) := fun p hp i => cpA_mi m ((by decide : ∀ p ∈ ([88, 91, 92, 93, 94, 95, 96, 97, 98, 99] : List Nat), p ≠ 109) p hp) ((by decide : ∀ p ∈ ([88, 91, 92, 93, 94, 95, 96, 97, 98, 99] : List Nat), p ≠ 110) p hp) i
theorem cpA_Fq (m : AM) : Fq m (cpA m) := fun k _ => cpA_mi m (by decide) (by decide) k
theorem RT.ahead {m : AM} (h : RT m) : RT (cpA m) := by
  obtain ⟨⟨a, b', c, d, e, f, g, i, w⟩, r, t⟩ := h
  have n := fun (o : Nat) h h2 j => cpA_mi m (o := o) h h2 j
  refine ⟨⟨a, ⟨fun q hq => ?_, fun q hq j => ?_, fun j hj => ?_⟩, fun j => ?_, fun j => ?_, fun j => ?_, fun j => ?_, ?_, ?_, fun j => ?_⟩, fun j => ?_, fun j => ?_⟩
  · rw [n q.1 ((by decide : ∀ q ∈ imS, q.1 ≠ 109) q hq) ((by decide : ∀ q ∈ imS, q.1 ≠ 110) q hq)]
    exact b'.1 q hq
  · rw [n q.1 ((by decide : ∀ q ∈ imA, q.1 ≠ 109) q hq) ((by decide : ∀ q ∈ imA, q.1 ≠ 110) q hq)]
    exact b'.2.1 q hq j
  · rw [n 139 (by decide) (by decide), n 86 (by decide) (by decide), n 0 (by decide) (by decide), n (68 + 3 * j) (by omega) (by omega)]
    exact b'.2.2 j hj
  · unfold cpA
    rw [mi_cpr]
    split
    · rw [mi_cpr, if_neg (fun q => absurd q.1 (by decide))]; exact t j
    · rw [mi_cpr, if_neg (fun q => absurd q.1 (by decide))]; exact c j
  · rw [n 106 (by decide) (by decide)]; exact d j
  · unfold cpA
    rw [mi_cpr, if_neg (fun q => absurd q.1 (by decide)), mi_cpr]
    split
    · exact r j
    · exact e j
  · rw [n 114 (by decide) (by decide)]; exact f j
  · rw [n 86 (by decide) (by decide)]; exact g
  · rw [n 86 (by decide) (by decide)]; exact i
  · rw [n 89 (by decide) (by decide)]; exact w j
  · rw [n 107 (by decide) (by decide)]; exact r j
  · rw [n 108 (by decide) (by decide)]; exact t j
/-- a tick of all boxes at the reference -/
def taM (m : AM) : AM := taL (mi m 86 1).toNat 0 (cpA m)

set_option maxRecDepth 20000 in
set_option maxHeartbeats 4000000 in
theorem lp_X12_tickAll_2 {G : QW} {R : Room} {F : QFin} {cc cs : Nat} {m : AM} (hS : St m)  (hexit : qJ G mX12_tickAll R F 38 [(0, vR 86)] [] (cpr (cpr m 109 107 24) 110 108 24) cc cs) : ∀ (fuel : Nat) (s : Int), 0 ≤ s → s ≤ 24 → 24 - s < fuel → qJ G mX12_tickAll R F 2 [(0, vR 86), (1, vI s)] [] (cpr (cpr m 109 107 s) 110 108 s) cc cs := by
  intro fuel
  induction fuel with
  | zero => intro s h1 h2 h3; omega
  | succ fuel ih =>
    intro s hv1 hv2 hv3
    refine j_iload_n rfl rfl ?_
    refine j_bipush rfl (by decide) ?_
    refine j_icmp_ge (tgt := 38) rfl (by decide) (by omega) (by omega) (by omega) (by omega) (fun hb5_1 => ?_) (fun hb5_1 => ?_)
    · skip
      have he : s = 24 := by omega
      rw [he]
      refine j_loc (ls' := [(0, vR 86)]) rfl ?_
      exact hexit
    · skip
      refine j_aload_n rfl rfl ?_
      refine j_getR (q := 109) rfl f_X12_78 rfl (hS.lt (by decide)) (hS.k (by decide) (by decide)) (hS.r (by decide)) ?_
      refine j_iload_n rfl rfl ?_
      refine j_aload_n rfl rfl ?_
      refine j_getR (q := 107) rfl f_X12_72 rfl (hS.lt (by decide)) (hS.k (by decide) (by decide)) (hS.r (by decide)) ?_
      refine j_iload_n rfl rfl ?_
      refine j_iald (n := 24) rfl (hS.lt (by decide)) (hS.k (by decide) (by decide)) (hS.n (by decide) (by decide)) (by omega) (by omega) (by decide) ?_
      rw [show mi (cpr (cpr m 109 107 s) 110 108 s) 107 s.toNat = mi m 107 s.toNat from by simp [mi_si, mi_fil, mi_cpr, mi_sl, mi_sr, ml_sl, ml_si, ml_sr, ml_fil, ml_cpr]]
      have u18_1 := mi_rng m 107 s.toNat
      refine j_iast (n := 24) rfl (hS.lt (by decide)) (hS.k (by decide) (by decide)) (hS.n (by decide) (by decide)) (by omega) (by omega) (by first | decide | omega) ?_
      refine j_aload_n rfl rfl ?_
      refine j_getR (q := 110) rfl f_X12_81 rfl (hS.lt (by decide)) (hS.k (by decide) (by decide)) (hS.r (by decide)) ?_
      refine j_iload_n rfl rfl ?_
      refine j_aload_n rfl rfl ?_
      refine j_getR (q := 108) rfl f_X12_75 rfl (hS.lt (by decide)) (hS.k (by decide) (by decide)) (hS.r (by decide)) ?_
      refine j_iload_n rfl rfl ?_
      refine j_iald (n := 24) rfl (hS.lt (by decide)) (hS.k (by decide) (by decide)) (hS.n (by decide) (by decide)) (by omega) (by omega) (by decide) ?_
      rw [show mi (si (cpr (cpr m 109 107 s) 110 108 s) 109 s.toNat (mi m 107 s.toNat)) 108 s.toNat = mi m 108 s.toNat from by simp [mi_si, mi_fil, mi_cpr, mi_sl, mi_sr, ml_sl, ml_si, ml_sr, ml_fil, ml_cpr]]
      have u30_1 := mi_rng m 108 s.toNat
      refine j_iast (n := 24) rfl (hS.lt (by decide)) (hS.k (by decide) (by decide)) (hS.n (by decide) (by decide)) (by omega) (by omega) (by first | decide | omega) ?_
      refine j_iinc rfl rfl (by decide) ?_
      refine j_goto (tgt := 2) rfl (by decide) ?_
      refine j_loc (ls' := [(0, vR 86), (1, vI (s + 1))]) rfl ?_
      rw [si_cpr (by decide) (by decide), cpr_si (m := m) (o1 := 109) (o0 := 107) (e := s) (v := mi m 107 s.toNat) (by omega) rfl (by first | rfl | simp [mi_cpr]), cpr_si (m := (cpr m 109 107 (s + 1))) (o1 := 110) (o0 := 108) (e := s) (v := mi m 108 s.toNat) (by omega) rfl (by first | rfl | simp [mi_cpr])]
      exact ih (s + 1) (by omega) (by omega) (by omega)

set_option maxRecDepth 20000 in
theorem ct_X12_tickAll {G : QW} {m : AM} (hRT : RT m) (hf : 0 ≤ mi m 86 45 ∧ mi m 86 45 ≤ 10) (hLK : ∀ b j, 0 ≤ b → b < mi m 86 1 → 0 ≤ j → j < mi m 91 b.toNat → LK m b ((12 * b) + j)) : qM G mX12_tickAll 4 0 0 [vR 86] m (fun r m' => r = none ∧ SameP (taM m) m') := by
  refine qM.intro okX12_tickAll (Nat.le_of_ble_eq_true rfl) ?_
  have hS := hRT.1.1
  have hbx := hRT.1.2.1.s 86 1 0 6 (by decide)
  refine j_iconst rfl ?_
  refine j_istore_n rfl (by decide) ?_
  refine j_loc (ls' := [(0, vR 86), (1, vI 0)]) rfl ?_
  refine qJ_mem (m' := (cpr (cpr m 109 107 0) 110 108 0)) (by simp only [cpr_0 _ _ _ (Int.le_refl _)]) ?_
  refine lp_X12_tickAll_2 (m := m) hS ?_ 25 0 (by decide) (by decide) (by decide)
  refine j_iconst rfl ?_
  refine j_istore_n rfl (by decide) ?_
  refine j_loc (ls' := [(0, vR 86), (1, vI 0)]) rfl ?_
  exact lp_tickAll_40 (m := cpA m) (by rw [cpA_Fq m 45 (by decide)]; exact hf) (fun b j h0 h1 h2 h3 => (cpA_Fr m).prog (hLK b j h0 (by rw [← cpA_Fq m 1 (by decide)]; exact h1) h2 (by rw [← cpA_Fr m 91 (by decide)]; exact h3))) (mi m 86 1).toNat 0 (cpA m) (cpA m) (Fr.rf _) (Fq.rf _) hRT.ahead (SameP.rf _) (by rw [cpA_Fq m 1 (by decide)]; omega) (Int.le_refl 0) rfl


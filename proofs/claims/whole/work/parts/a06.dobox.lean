theorem ct_sendZ {G : QW} {m N : AM} {o : Nat} {W : ZW} {b l v : Int} {C : ZC} {g : Prop} {S : ZS} (hG : GT m o W) (hb : 0 ≤ b ∧ b < W.nb) (hl : 0 ≤ l ∧ l < W.nl b) (h : LI m o (bx m b) (pg m b) C g N S) (hv : -1000000000 ≤ v ∧ v ≤ 1000000000) : qM G mX10_send 1 0 0 [vR 17, vI l, vL v] N (fun r m' => r = none ∧ m' = FX10_send N o (bx m b) (pg m b) l v) := by
  have hM := h.rk hG hb
  have ho2 := hG.2.1
  unfold sto at ho2
  have hB := hG.2.2.2.2 b hb.1 hb.2
  have hW := hG.2.2.2.1.2 b hb.1 hb.2
  have hL := (hW.2.1 l hl.1 hl.2).2.2.2.1
  have hA := h.1.agL hG.2.1 hB.2.1.2 (hB.2.2.2.2.2.2.2 l hl.1 hl.2)
  have hm := most_zw hG hb h.1 hl
  have hx := hB.2.1.1
  have hp := hB.2.1.2
  have hn := hW.1
  exact ct_X10_send hM.1 hM.2.1 (by omega) (by omega) hM.2.2.1.1 hM.2.2.1.2 hM.2.2.2.1.1 hM.2.2.2.1.2 hM.2.2.2.2.2.1 hM.2.2.2.2.1.1 hM.2.2.2.2.1.2 (by omega) (by omega) (by omega) (by omega) (by omega) (by omega) (by rw [hA.2.2.2.1]; omega) (by rw [hA.2.2.2.1]; omega) (by rw [hA.2.2.2.1, hm.1]; omega)
/-- what a line needs of the ground -/
theorem line_ok {m N : AM} {o : Nat} {W : ZW} {b l : Int} {C : ZC} {g : Prop} {S : ZS} (hG : GT m o W) (hb : 0 ≤ b ∧ b < W.nb) (hl : 0 ≤ l ∧ l < W.nl b) (h : LI m o (bx m b) (pg m b) C g N S) : (l ≤ 11 ∧ b ≤ 5) ∧ AgL N (pg m b) W b l ∧ W.okL b l ∧ wdA N (pg m b) (W.cd b) (W.at3 b l).1 (W.at3 b l).2.1 ∧ wdA N (pg m b) (W.cd b) (W.at3 b l).2.1 (W.at3 b l).2.2 := by
  have hB := hG.2.2.2.2 b hb.1 hb.2
  have hnb := hG.2.2.2.1.1
  have hW := hG.2.2.2.1.2 b hb.1 hb.2
  have hL := hW.2.1 l hl.1 hl.2
  have hA := h.1.agL hG.2.1 hB.2.1.2 (hB.2.2.2.2.2.2.2 l hl.1 hl.2)
  have hn := hW.1
  refine ⟨⟨by omega, by omega⟩, hA, hL, fun j h1 h2 => ⟨hA.2.2.2.2 j h1 (by have := hL.1; omega), ?_⟩, fun j h1 h2 => ⟨hA.2.2.2.2 j (by have := hL.1; omega) h2, ?_⟩⟩
  · exact hL.2.2.2.2 j h1 (by have := hL.1; omega)
  · exact hL.2.2.2.2 j (by have := hL.1; omega) h2

set_option maxRecDepth 20000 in
set_option maxHeartbeats 4000000 in
theorem lp_doBox_148 {G : QW} {m N : AM} {o : Nat} {W : ZW} {b l e p i ca : Int} {C : ZC} {g : Prop} {S : ZS} {Rp : Option Vl → AM → Prop} (hG : GT m o W) (hb : 0 ≤ b ∧ b < W.nb) (hl : 0 ≤ l ∧ l < W.nl b) (h : LI m o (bx m b) (pg m b) C g N S) (h8 : mi N 17 8 = e) (h9 : mi N 17 9 = 0) (K : ∀ N2, LI m o (bx m b) (pg m b) C g N2 (zwB W C e b l S).2 → mi N2 17 9 = (zwB W C e b l S).1 → qJ G mX10_doBox { frames := 3, cells := 0, slots := 0, locals := 60 * 3 } (qF G Rp 0 0) 178 [(0, vR 17), (1, vR (bx m b)), (2, vI p), (3, vI i), (4, vI l), (5, vI ca)] [] N2 0 0) : qJ G mX10_doBox { frames := 3, cells := 0, slots := 0, locals := 60 * 3 } (qF G Rp 0 0) 148 [(0, vR 17), (1, vR (bx m b)), (2, vI p), (3, vI i), (4, vI l), (5, vI ca)] [] N 0 0 := by
  have hM := h.rk hG hb
  have hS := hM.1
  obtain ⟨⟨hl11, hb5⟩, hA, hL, hwdT, hwdB⟩ := line_ok hG hb hl h
  obtain ⟨ht1, ht2, ht3, ht4⟩ := hL.1
  have e0 := hA.2.2.1.1
  have e1 := hA.2.2.1.2.1
  have e2 := hA.2.2.1.2.2
  refine j_aload_n rfl rfl ?_
  refine j_iload rfl rfl ?_
  refine j_aload_n rfl rfl ?_
  refine j_aload_n rfl rfl ?_
  refine j_getR (q := (pg m b)) rfl f_X10_67 rfl (hS.lt (by decide)) (hS.k (by decide) (by decide)) hM.2.2.2.2.1.2 ?_
  refine j_getR (q := ((pg m b) + 3)) rfl f_X10_94 rfl hM.2.2.2.2.1.1.1 hM.2.2.2.2.1.1.2.1 (hM.2.2.2.2.1.1.q 2 3 13 12 (by decide)).1 ?_
  refine j_iload rfl rfl ?_
  refine j_iald (n := 12) rfl (hM.2.2.2.2.1.1.q 2 3 13 12 (by decide)).2.1 (hM.2.2.2.2.1.1.q 2 3 13 12 (by decide)).2.2.1 (hM.2.2.2.2.1.1.q 2 3 13 12 (by decide)).2.2.2 (by omega) (by omega) (by decide) ?_
  have u161_1 := mi_rng N ((pg m b) + 3) l.toNat
  refine j_aload_n rfl rfl ?_
  refine j_getR (q := (pg m b)) rfl f_X10_67 rfl (hS.lt (by decide)) (hS.k (by decide) (by decide)) hM.2.2.2.2.1.2 ?_
  refine j_getR (q := ((pg m b) + 4)) rfl f_X10_101 rfl hM.2.2.2.2.1.1.1 hM.2.2.2.2.1.1.2.1 (hM.2.2.2.2.1.1.q 3 4 13 12 (by decide)).1 ?_
  refine j_iload rfl rfl ?_
  refine j_iald (n := 12) rfl (hM.2.2.2.2.1.1.q 3 4 13 12 (by decide)).2.1 (hM.2.2.2.2.1.1.q 3 4 13 12 (by decide)).2.2.1 (hM.2.2.2.2.1.1.q 3 4 13 12 (by decide)).2.2.2 (by omega) (by omega) (by decide) ?_
  have u171_1 := mi_rng N ((pg m b) + 4) l.toNat
  rw [e1, e2]
  refine j_callV (ci := 10) rfl okX10_workOut c_X10_97 (ct_workE hM h9 (by omega) (by omega) (by omega) hwdB hL.2.2.1) rfl rfl (hS.lt (by decide)) (hS.k (by decide) (by decide)) (by decide) rfl (Nat.le_of_ble_eq_true rfl) (by decide) (by decide) ?_
  rintro vq mq hq
  rw [eK_zw hG hb h h8 hL.2.2.1] at hq
  have hr := zwE_r W C S.sl e b (W.at3 b l).2.1 (W.at3 b l).2.2
  rcases hq with ⟨hz, q1, hpl, hr1, hr2⟩ | ⟨hz, q1, hpl⟩
  · subst q1
    simp only [Option.toList_some, Option.toList_none, List.cons_append, List.nil_append]
    have h2 := h.pl hpl
    have hM := h2.rk hG hb
    have hS := hM.1
    have h92 : mi mq 17 9 = 0 := by rw [hpl.mi]; exact h9
    refine j_callV (ci := 10) rfl okX10_send c_X10_104 (ct_sendZ hG hb hl h2 ⟨hr1, hr2⟩) rfl rfl (hS.lt (by decide)) (hS.k (by decide) (by decide)) (by decide) rfl (Nat.le_of_ble_eq_true rfl) (by decide) (by decide) ?_
    rintro vq2 mq2 ⟨q1, q2⟩
    rw [q1, q2]
    simp only [Option.toList_some, Option.toList_none, List.cons_append, List.nil_append]
    have q := send_zw hG hb hl h2 h92 ⟨hr1, hr2⟩
    refine K _ ?_ ?_
    all_goals unfold zwB; rw [if_neg (fun z => z hz)]
    · exact q.1
    · exact q.2
  · subst q1
    simp only [Option.toList_some, Option.toList_none, List.cons_append, List.nil_append]
    have h2 := (h.own hG.2.1 (Or.inr rfl) (k := 9) (v := (zwE W C S.sl e b (W.at3 b l).2.1 (W.at3 b l).2.2).1) (by omega)).pl hpl
    have hM := h2.rk hG hb
    have hS := hM.1
    have h92 : mi mq 17 9 = (zwE W C S.sl e b (W.at3 b l).2.1 (W.at3 b l).2.2).1 := by rw [hpl.mi]; exact mi_si_same _ _ _ (by omega) (by omega)
    refine j_callV (ci := 10) rfl okX10_send c_X10_104 (ct_sendZ hG hb hl h2 (by decide)) rfl rfl (hS.lt (by decide)) (hS.k (by decide) (by decide)) (by decide) rfl (Nat.le_of_ble_eq_true rfl) (by decide) (by decide) ?_
    rintro vq2 mq2 ⟨q1, q2⟩
    rw [q1, q2]
    simp only [Option.toList_some, Option.toList_none, List.cons_append, List.nil_append]
    rw [send_f (by rw [h92]; exact hz)]
    refine K _ ?_ ?_
    all_goals unfold zwB; rw [if_pos hz]
    · exact h2
    · exact h92

set_option maxRecDepth 20000 in
set_option maxHeartbeats 4000000 in
theorem lp_doBox_107 {G : QW} {m N : AM} {o : Nat} {W : ZW} {b l e p i ca : Int} {C : ZC} {g : Prop} {S : ZS} {Rp : Option Vl → AM → Prop} (hG : GT m o W) (hb : 0 ≤ b ∧ b < W.nb) (hl : 0 ≤ l ∧ l < W.nl b) (h : LI m o (bx m b) (pg m b) C g N S) (h8 : mi N 17 8 = e) (h9 : mi N 17 9 = 0) (K : ∀ N2, LI m o (bx m b) (pg m b) C g N2 (zwLn W C e b l S).2 → mi N2 17 9 = (zwLn W C e b l S).1 → qJ G mX10_doBox { frames := 3, cells := 0, slots := 0, locals := 60 * 3 } (qF G Rp 0 0) 178 [(0, vR 17), (1, vR (bx m b)), (2, vI p), (3, vI i), (4, vI l), (5, vI ca)] [] N2 0 0) : qJ G mX10_doBox { frames := 3, cells := 0, slots := 0, locals := 60 * 3 } (qF G Rp 0 0) 107 [(0, vR 17), (1, vR (bx m b)), (2, vI p), (3, vI i), (4, vI l), (5, vI ca)] [] N 0 0 := by
  have hM := h.rk hG hb
  have hS := hM.1
  obtain ⟨⟨hl11, hb5⟩, hA, hL, hwdT, hwdB⟩ := line_ok hG hb hl h
  obtain ⟨ht1, ht2, ht3, ht4⟩ := hL.1
  have e0 := hA.2.2.1.1
  have e1 := hA.2.2.1.2.1
  have e2 := hA.2.2.1.2.2
  refine j_aload_n rfl rfl ?_
  refine j_getR (q := (pg m b)) rfl f_X10_67 rfl (hS.lt (by decide)) (hS.k (by decide) (by decide)) hM.2.2.2.2.1.2 ?_
  refine j_iload rfl rfl ?_
  refine j_callV (ci := 5) rfl okX5_hasTest c_X10_87 (ct_X5_hasTest hM.2.2.2.2.1.1 (by omega) (by omega) (by omega) (by omega)) rfl rfl hM.2.2.2.2.1.1.1 hM.2.2.2.2.1.1.2.1 (by decide) rfl (Nat.le_of_ble_eq_true rfl) (by decide) (by decide) ?_
  rintro vq mq ⟨e1, e2⟩
  rw [e1, e2]
  clear e1 e2
  simp only [Option.toList_some, Option.toList_none, List.cons_append, List.nil_append]
  refine j_bif_eq (tgt := 148) rfl (by decide) (fun hb116_1 => ?_) (fun hb116_1 => ?_)
  · skip
    refine j_loc (ls' := [(0, vR 17), (1, vR (bx m b)), (2, vI p), (3, vI i), (4, vI l), (5, vI ca)]) rfl ?_
    refine lp_doBox_148 hG hb hl h h8 h9 (fun N2 a1 a2 => K N2 ?_ ?_)
    all_goals unfold zwLn; rw [if_neg (by rw [← e0, ← e1]; exact hb116_1)]
    · exact a1
    · exact a2
  · skip
    refine j_aload_n rfl rfl ?_
    refine j_aload_n rfl rfl ?_
    refine j_getR (q := (pg m b)) rfl f_X10_67 rfl (hS.lt (by decide)) (hS.k (by decide) (by decide)) hM.2.2.2.2.1.2 ?_
    refine j_getR (q := ((pg m b) + 2)) rfl f_X10_91 rfl hM.2.2.2.2.1.1.1 hM.2.2.2.2.1.1.2.1 (hM.2.2.2.2.1.1.q 1 2 13 12 (by decide)).1 ?_
    refine j_iload rfl rfl ?_
    refine j_iald (n := 12) rfl (hM.2.2.2.2.1.1.q 1 2 13 12 (by decide)).2.1 (hM.2.2.2.2.1.1.q 1 2 13 12 (by decide)).2.2.1 (hM.2.2.2.2.1.1.q 1 2 13 12 (by decide)).2.2.2 (by omega) (by omega) (by decide) ?_
    have u129_1 := mi_rng N ((pg m b) + 2) l.toNat
    refine j_aload_n rfl rfl ?_
    refine j_getR (q := (pg m b)) rfl f_X10_67 rfl (hS.lt (by decide)) (hS.k (by decide) (by decide)) hM.2.2.2.2.1.2 ?_
    refine j_getR (q := ((pg m b) + 3)) rfl f_X10_94 rfl hM.2.2.2.2.1.1.1 hM.2.2.2.2.1.1.2.1 (hM.2.2.2.2.1.1.q 2 3 13 12 (by decide)).1 ?_
    refine j_iload rfl rfl ?_
    refine j_iald (n := 12) rfl (hM.2.2.2.2.1.1.q 2 3 13 12 (by decide)).2.1 (hM.2.2.2.2.1.1.q 2 3 13 12 (by decide)).2.2.1 (hM.2.2.2.2.1.1.q 2 3 13 12 (by decide)).2.2.2 (by omega) (by omega) (by decide) ?_
    have u139_1 := mi_rng N ((pg m b) + 3) l.toNat
    rw [e0, e1]
    refine j_callV (ci := 10) rfl okX10_workOut c_X10_97 (ct_workE hM h9 (by omega) (by omega) (by omega) hwdT (hL.2.1 (by rw [← e0, ← e1]; exact hb116_1))) rfl rfl (hS.lt (by decide)) (hS.k (by decide) (by decide)) (by decide) rfl (Nat.le_of_ble_eq_true rfl) (by decide) (by decide) ?_
    rintro vq mq hq
    rw [e0, e1] at hb116_1
    rw [eK_zw hG hb h h8 (hL.2.1 hb116_1)] at hq
    have hr := zwE_r W C S.sl e b (W.at3 b l).1 (W.at3 b l).2.1
    rcases hq with ⟨hz, q1, hpl, hr1, hr2⟩ | ⟨hz, q1, hpl⟩
    · subst q1
      simp only [Option.toList_some, Option.toList_none, List.cons_append, List.nil_append]
      have h2 := h.pl hpl
      have hM := h2.rk hG hb
      have hS := hM.1
      have h82 : mi mq 17 8 = e := by rw [hpl.mi]; exact h8
      have h92 : mi mq 17 9 = 0 := by rw [hpl.mi]; exact h9
      refine j_lconst (v := 0) rfl (by decide) ?_
      refine j_lc_eq (tgt := 178) rfl rfl (by decide) (by omega) (by omega) (by omega) (by omega) (fun hb144_1 => ?_) (fun hb144_1 => ?_)
      · skip
        refine j_loc (ls' := [(0, vR 17), (1, vR (bx m b)), (2, vI p), (3, vI i), (4, vI l), (5, vI ca)]) rfl ?_
        refine K _ ?_ ?_
        all_goals unfold zwLn; rw [if_pos hb116_1, if_neg (fun z => z hz), if_pos hb144_1]
        · exact h2
        · exact h92
      · skip
        refine j_loc (ls' := [(0, vR 17), (1, vR (bx m b)), (2, vI p), (3, vI i), (4, vI l), (5, vI ca)]) rfl ?_
        refine lp_doBox_148 hG hb hl h2 h82 h92 (fun N2 a1 a2 => K N2 ?_ ?_)
        all_goals unfold zwLn; rw [if_pos hb116_1, if_neg (fun z => z hz), if_neg hb144_1]
        · exact a1
        · exact a2
    · subst q1
      simp only [Option.toList_some, Option.toList_none, List.cons_append, List.nil_append]
      have h2 := (h.own hG.2.1 (Or.inr rfl) (k := 9) (v := (zwE W C S.sl e b (W.at3 b l).1 (W.at3 b l).2.1).1) (by omega)).pl hpl
      have hM := h2.rk hG hb
      have hS := hM.1
      have h92 : mi mq 17 9 = (zwE W C S.sl e b (W.at3 b l).1 (W.at3 b l).2.1).1 := by rw [hpl.mi]; exact mi_si_same _ _ _ (by omega) (by omega)
      refine j_lconst (v := 0) rfl (by decide) ?_
      refine j_lc_eq (tgt := 178) rfl rfl (by decide) (by omega) (by omega) (by omega) (by omega) (fun hb144_2 => ?_) (fun hb144_2 => ?_)
      · skip
        refine j_loc (ls' := [(0, vR 17), (1, vR (bx m b)), (2, vI p), (3, vI i), (4, vI l), (5, vI ca)]) rfl ?_
        refine K _ ?_ ?_
        all_goals unfold zwLn; rw [if_pos hb116_1, if_pos hz]
        · exact h2
        · exact h92
      · skip
        refine j_loc (ls' := [(0, vR 17), (1, vR (bx m b)), (2, vI p), (3, vI i), (4, vI l), (5, vI ca)]) rfl ?_
        exact absurd rfl hb144_2

set_option maxRecDepth 20000 in
set_option maxHeartbeats 4000000 in
theorem lp_doBox_72 {G : QW} {m N : AM} {o : Nat} {W : ZW} {b l p i ca : Int} {C : ZC} {g : Prop} {S : ZS} {Rp : Option Vl → AM → Prop} (hG : GT m o W) (hb : 0 ≤ b ∧ b < W.nb) (hl : 0 ≤ l ∧ l < W.nl b) (h : LI m o (bx m b) (pg m b) C g N S) (hp : 0 ≤ p ∧ p ≤ 4) (hca : (ca = 1 ∧ p > 0) ∨ (ca = 0 ∧ p = 0)) (K : ∀ N2, LI m o (bx m b) (pg m b) C g N2 (zwLn W C p b l (zwCg b p S)).2 → mi N2 17 9 = (zwLn W C p b l (zwCg b p S)).1 → qJ G mX10_doBox { frames := 3, cells := 0, slots := 0, locals := 60 * 3 } (qF G Rp 0 0) 178 [(0, vR 17), (1, vR (bx m b)), (2, vI p), (3, vI i), (4, vI l), (5, vI ca)] [] N2 0 0) : qJ G mX10_doBox { frames := 3, cells := 0, slots := 0, locals := 60 * 3 } (qF G Rp 0 0) 72 [(0, vR 17), (1, vR (bx m b)), (2, vI p), (3, vI i), (4, vI l), (5, vI ca)] [] N 0 0 := by
  have hM := h.rk hG hb
  have hS := hM.1
  obtain ⟨⟨hl11, hb5⟩, hA, hL, hwdT, hwdB⟩ := line_ok hG hb hl h
  obtain ⟨ht1, ht2, ht3, ht4⟩ := hL.1
  have e0 := hA.2.2.1.1
  have e1 := hA.2.2.1.2.1
  have e2 := hA.2.2.1.2.2
  have hx0 : mi N (bx m b) 0 = b := (h.1.cel (nt145 hG.2.1 (hG.2.2.2.2 b hb.1 hb.2).2.1.1) 0).trans (hG.2.2.2.2 b hb.1 hb.2).2.2.1.1
  refine j_aload_n rfl rfl ?_
  refine j_getR (q := o) rfl f_X10_25 rfl (hS.lt (by decide)) (hS.k (by decide) (by decide)) hM.2.2.1.2 ?_
  refine j_getR (q := (o + 5)) rfl f_X10_76 rfl hM.2.2.1.1.1 hM.2.2.1.1.2.1 (hM.2.2.1.1.q 4 5 13 6 (by decide)).1 ?_
  refine j_aload_n rfl rfl ?_
  refine j_getI rfl f_X10_79 rfl hM.2.2.2.1.1.1 hM.2.2.2.1.1.2.1 ?_
  have u80_1 := mi_rng N (bx m b) 0
  rw [hx0]
  refine j_dup2 rfl (Nat.ne_of_beq_eq_false rfl) (Nat.ne_of_beq_eq_false rfl) ?_
  refine j_iald (n := 6) rfl (hM.2.2.1.1.q 4 5 13 6 (by decide)).2.1 (hM.2.2.1.1.q 4 5 13 6 (by decide)).2.2.1 (hM.2.2.1.1.q 4 5 13 6 (by decide)).2.2.2 (by omega) (by omega) (by decide) ?_
  have u84_1 := mi_rng N (o + 5) b.toNat
  refine j_iload rfl rfl ?_
  refine j_if_eq (tgt := 94) rfl (by decide) (by omega) (by omega) (fun hb87_1 => ?_) (fun hb87_1 => ?_)
  · skip
    refine j_iconst rfl ?_
    refine j_iadd rfl ?_
    refine j_iast (n := 6) rfl (hM.2.2.1.1.q 4 5 13 6 (by decide)).2.1 (hM.2.2.1.1.q 4 5 13 6 (by decide)).2.2.1 (hM.2.2.1.1.q 4 5 13 6 (by decide)).2.2.2 (by omega) (by omega) (by first | decide | omega) ?_
    refine j_aload_n rfl rfl ?_
    refine j_iload_n rfl rfl ?_
    refine j_putI rfl f_X10_82 rfl (hS.lt (by decide)) (hS.k (by decide) (by decide)) ?_
    refine j_aload_n rfl rfl ?_
    refine j_iconst rfl ?_
    refine j_putI rfl f_X10_84 rfl (hS.lt (by decide)) (hS.k (by decide) (by decide)) ?_
    refine j_loc (ls' := [(0, vR 17), (1, vR (bx m b)), (2, vI p), (3, vI i), (4, vI l), (5, vI ca)]) rfl ?_
    first | (exfalso; omega) | skip
    have h1 := h.cg0 hG.2.1 (b := b) (q := p) ⟨hb.1, hb5⟩ (by omega)
    have h2 := (h1.own hG.2.1 (Or.inl rfl) (k := 8) (v := p) (by omega)).own hG.2.1 (Or.inr rfl) (k := 9) (v := 0) (by decide)
    exact lp_doBox_107 (e := p) hG hb hl h2 (by rw [mi_si_ne _ _ (by decide), mi_si_same _ _ _ (by omega) (by omega)]) (mi_si_same _ _ _ (by decide) (by decide)) K
  · skip
    refine j_iconst rfl ?_
    refine j_goto (tgt := 95) rfl (by decide) ?_
    refine j_iadd rfl ?_
    refine j_iast (n := 6) rfl (hM.2.2.1.1.q 4 5 13 6 (by decide)).2.1 (hM.2.2.1.1.q 4 5 13 6 (by decide)).2.2.1 (hM.2.2.1.1.q 4 5 13 6 (by decide)).2.2.2 (by omega) (by omega) (by first | decide | omega) ?_
    refine j_aload_n rfl rfl ?_
    refine j_iload_n rfl rfl ?_
    refine j_putI rfl f_X10_82 rfl (hS.lt (by decide)) (hS.k (by decide) (by decide)) ?_
    refine j_aload_n rfl rfl ?_
    refine j_iconst rfl ?_
    refine j_putI rfl f_X10_84 rfl (hS.lt (by decide)) (hS.k (by decide) (by decide)) ?_
    refine j_loc (ls' := [(0, vR 17), (1, vR (bx m b)), (2, vI p), (3, vI i), (4, vI l), (5, vI ca)]) rfl ?_
    first | (exfalso; omega) | skip
    have h1 := h.cg hG.2.1 (b := b) (q := p) ⟨hb.1, hb5⟩ (by omega)
    have h2 := (h1.own hG.2.1 (Or.inl rfl) (k := 8) (v := p) (by omega)).own hG.2.1 (Or.inr rfl) (k := 9) (v := 0) (by decide)
    exact lp_doBox_107 (e := p) hG hb hl h2 (by rw [mi_si_ne _ _ (by decide), mi_si_same _ _ _ (by omega) (by omega)]) (mi_si_same _ _ _ (by decide) (by decide)) K


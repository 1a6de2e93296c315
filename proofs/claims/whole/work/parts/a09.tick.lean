theorem LI.next {m N N2 : AM} {o x p : Nat} {C : ZC} {g : Prop} {S2 : ZS} (h : LI N o x p C g N2 S2) (t : TF o m N) : KI m o C g N2 S2 := ⟨⟨t.trans h.1, h.2.1, h.2.2.2.1, h.2.2.2.2.2.2.1, h.2.2.2.2.2.2.2⟩, h.2.2.1.1, h.2.2.2.2.1, h.2.2.2.2.2.1⟩

set_option maxRecDepth 20000 in
set_option maxHeartbeats 4000000 in
theorem lp_tick_81 {G : QW} {m : AM} {o a : Nat} {W : ZW} {rest t : Int} {C : ZC} {g : Prop} {E : ZS} {Rp : Option Vl → AM → Prop} (hG : GT m o W) (hr : -2147483648 ≤ rest ∧ rest < 2147483648) (hfin : ∀ N, KI m o C g N E → Rp none N) : ∀ (c : Nat) (b : Int) (N : AM) (S : ZS), KI m o C g N S → b + c = W.nb → 0 ≤ b → zwAl W C rest c b S = E → qJ G mX10_tick { frames := 4, cells := 0, slots := 0, locals := 60 * 4 } (qF G Rp 0 0) 81 [(0, vR 17), (1, vR 3), (2, vI W.nb), (3, vR o), (4, vR a), (5, vI t), (6, vI rest), (7, vI b)] [] N 0 0 := by
  intro c
  induction c with
  | zero =>
    intro b N S h hb hb0 hE
    have hnb := hG.2.2.2.1.1
    have e : S = E := hE
    subst e
    refine j_iload rfl rfl ?_
    refine j_iload_n rfl rfl ?_
    refine j_icmp_ge (tgt := 118) rfl (by decide) (by omega) (by omega) (by omega) (by omega) (fun hb84_1 => ?_) (fun hb84_1 => by exfalso; omega)
    refine j_vret rfl rfl ?_ rfl (Nat.le_refl _)
    exact hfin N h
  | succ c ih =>
    intro b N S h hbc hb0 hE
    have hnb := hG.2.2.2.1.1
    have hb : 0 ≤ b ∧ b < W.nb := by omega
    have hGN := hG.of h.1.1
    have hS := hGN.1
    have hO := hGN.2.2.1
    have hB := hGN.2.2.2.2 b hb.1 hb.2
    have hfa : mi N (o + 3) b.toNat = S.fa b.toNat := h.1.2.2.2.1.2.2.1 b.toNat (by omega)
    refine j_iload rfl rfl ?_
    refine j_iload_n rfl rfl ?_
    refine j_icmp_ge (tgt := 118) rfl (by decide) (by omega) (by omega) (by omega) (by omega) (fun hb84_1 => ?_) (fun hb84_1 => ?_)
    · skip
      exfalso; omega
    · skip
      refine j_iload rfl rfl ?_
      refine j_iload rfl rfl ?_
      refine j_icmp_eq (tgt := 112) rfl (by decide) (by omega) (by omega) (by omega) (by omega) (fun hb91_1 => ?_) (fun hb91_1 => ?_)
      · skip
        refine j_iinc rfl rfl (by decide) ?_
        refine j_goto (tgt := 81) rfl (by decide) ?_
        refine j_loc (ls' := [(0, vR 17), (1, vR 3), (2, vI W.nb), (3, vR o), (4, vR a), (5, vI t), (6, vI rest), (7, vI (b + 1))]) rfl ?_
        refine ih (b + 1) N S h (by omega) (by omega) (by unfold zwAl zwGo at hE; rw [if_neg (by intro z; omega)] at hE; exact hE)
      · skip
        refine j_aload_n rfl rfl ?_
        refine j_getR (q := (o + 3)) rfl f_X10_44 rfl hO.1 hO.2.1 (hO.q 2 3 13 6 (by decide)).1 ?_
        refine j_iload rfl rfl ?_
        refine j_iald (n := 6) rfl (hO.q 2 3 13 6 (by decide)).2.1 (hO.q 2 3 13 6 (by decide)).2.2.1 (hO.q 2 3 13 6 (by decide)).2.2.2 (by omega) (by omega) (by decide) ?_
        have u100_1 := mi_rng N (o + 3) b.toNat
        rw [hfa]
        refine j_if_ne (tgt := 112) rfl (by decide) (by omega) (by omega) (fun hb101_1 => ?_) (fun hb101_1 => ?_)
        · skip
          refine j_iinc rfl rfl (by decide) ?_
          refine j_goto (tgt := 81) rfl (by decide) ?_
          refine j_loc (ls' := [(0, vR 17), (1, vR 3), (2, vI W.nb), (3, vR o), (4, vR a), (5, vI t), (6, vI rest), (7, vI (b + 1))]) rfl ?_
          refine ih (b + 1) N S h (by omega) (by omega) (by unfold zwAl zwGo at hE; rw [if_neg (by intro z; omega)] at hE; exact hE)
        · skip
          refine j_aload_n rfl rfl ?_
          refine j_aload_n rfl rfl ?_
          refine j_iload rfl rfl ?_
          refine j_aald (k := 17) (n := 6) (v := (bx N b)) rfl (hS.lt (by decide)) (hS.k (by decide) (by decide)) el17 (hS.n (by decide) (by decide)) (by omega) (by omega) (by decide) hB.1.1 ?_
          refine j_callV (ci := 10) rfl okX10_doBox c_X10_53 (ct_doBoxK (g := g) (S := S) hGN hb h.1.2.1 h.2.1 h.1.2.2.1 h.2.2.1 h.2.2.2 h.1.2.2.2.1 h.1.2.2.2.2) rfl rfl (hS.lt (by decide)) (hS.k (by decide) (by decide)) (by decide) rfl (Nat.le_of_ble_eq_true rfl) (by decide) (by decide) ?_
          rintro vq mq ⟨e1, x, p, hL⟩
          rw [e1]
          clear e1
          simp only [Option.toList_some, Option.toList_none, List.cons_append, List.nil_append]
          refine j_iinc rfl rfl (by decide) ?_
          refine j_goto (tgt := 81) rfl (by decide) ?_
          refine j_loc (ls' := [(0, vR 17), (1, vR 3), (2, vI W.nb), (3, vR o), (4, vR a), (5, vI t), (6, vI rest), (7, vI (b + 1))]) rfl ?_
          refine ih (b + 1) mq _ (hL.next h.1.1) (by omega) (by omega) (by unfold zwAl zwGo at hE; rw [if_pos ⟨by omega, by omega⟩] at hE; exact hE)

set_option maxRecDepth 20000 in
set_option maxHeartbeats 4000000 in
theorem lp_tick_50 {G : QW} {N : AM} {o a : Nat} {W : ZW} {rest t : Int} {Rp : Option Vl → AM → Prop} (hS : St N) (ho : sto o) (hA : FLG N a) (ht : 0 ≤ t ∧ t ≤ 199) (K : qJ G mX10_tick { frames := 4, cells := 0, slots := 0, locals := 60 * 4 } (qF G Rp 0 0) 81 [(0, vR 17), (1, vR 3), (2, vI W.nb), (3, vR o), (4, vR a), (5, vI t), (6, vI rest), (7, vI 0)] [] (tk2 N a t) 0 0) : qJ G mX10_tick { frames := 4, cells := 0, slots := 0, locals := 60 * 4 } (qF G Rp 0 0) 50 [(0, vR 17), (1, vR 3), (2, vI W.nb), (3, vR o), (4, vR a), (5, vI t), (6, vI rest), (7, vI 0)] [] N 0 0 := by
  refine j_iload rfl rfl ?_
  refine j_iconst rfl ?_
  refine j_icmp_ge (tgt := 78) rfl (by decide) (by omega) (by omega) (by omega) (by omega) (fun hb53_1 => ?_) (fun hb53_1 => ?_)
  · skip
    exact absurd hb53_1 (by decide)
  · skip
    refine j_aload_n rfl rfl ?_
    refine j_getR (q := 20) rfl f_X10_18 rfl (hS.lt (by decide)) (hS.k (by decide) (by decide)) (hS.r (by decide)) ?_
    refine j_iload rfl rfl ?_
    refine j_aload rfl rfl ?_
    refine j_iload rfl rfl ?_
    refine j_iload rfl rfl ?_
    refine j_callV (ci := 3) rfl okX3_feltAt c_X10_47 (ct_feltK hA (by decide) ht) rfl rfl hA.1.1 hA.1.2.1 (by decide) rfl (Nat.le_of_ble_eq_true rfl) (by decide) (by decide) ?_
    rintro vq mq ⟨e1, e2⟩
    rw [e1, e2]
    clear e1 e2
    simp only [Option.toList_some, Option.toList_none, List.cons_append, List.nil_append]
    have hfr := felt_rngK hA (k := 0) (i := t) (by decide)
    refine j_iast (n := 3) rfl (hS.lt (by decide)) (hS.k (by decide) (by decide)) (hS.n (by decide) (by decide)) (by omega) (by omega) (by first | decide | omega) ?_
    refine j_iinc rfl rfl (by decide) ?_
    refine j_goto (tgt := 50) rfl (by decide) ?_
    refine j_loc (ls' := [(0, vR 17), (1, vR 3), (2, vI W.nb), (3, vR o), (4, vR a), (5, vI t), (6, vI rest), (7, vI 1)]) rfl ?_
    refine j_iload rfl rfl ?_
    refine j_iconst rfl ?_
    refine j_icmp_ge (tgt := 78) rfl (by decide) (by omega) (by omega) (by omega) (by omega) (fun hb53_2 => ?_) (fun hb53_2 => ?_)
    · skip
      exact absurd hb53_2 (by decide)
    · skip
      refine j_aload_n rfl rfl ?_
      refine j_getR (q := 20) rfl f_X10_18 rfl (hS.lt (by decide)) (hS.k (by decide) (by decide)) (hS.r (by decide)) ?_
      refine j_iload rfl rfl ?_
      refine j_aload rfl rfl ?_
      refine j_iload rfl rfl ?_
      refine j_iload rfl rfl ?_
      refine j_callV (ci := 3) rfl okX3_feltAt c_X10_47 (ct_feltK (((TF.rf o N).cell (c := 20) (Or.inl (by decide)) _ _).fg ho hA) (by decide) ht) rfl rfl hA.1.1 hA.1.2.1 (by decide) rfl (Nat.le_of_ble_eq_true rfl) (by decide) (by decide) ?_
      rintro vq mq ⟨e1, e2⟩
      rw [e1, e2]
      clear e1 e2
      simp only [Option.toList_some, Option.toList_none, List.cons_append, List.nil_append]
      rw [show FX3_feltAt (si N 20 (0 : Int).toNat (FX3_feltAt N a 0 t)) a 1 t = FX3_feltAt N a 1 t from TF.felt ((TF.rf o N).cell (c := 20) (Or.inl (by decide)) _ _) ho hA.2.1 _ _]
      have hfr := felt_rngK hA (k := 1) (i := t) (by decide)
      refine j_iast (n := 3) rfl (hS.lt (by decide)) (hS.k (by decide) (by decide)) (hS.n (by decide) (by decide)) (by omega) (by omega) (by first | decide | omega) ?_
      refine j_iinc rfl rfl (by decide) ?_
      refine j_goto (tgt := 50) rfl (by decide) ?_
      refine j_loc (ls' := [(0, vR 17), (1, vR 3), (2, vI W.nb), (3, vR o), (4, vR a), (5, vI t), (6, vI rest), (7, vI 2)]) rfl ?_
      refine j_iload rfl rfl ?_
      refine j_iconst rfl ?_
      refine j_icmp_ge (tgt := 78) rfl (by decide) (by omega) (by omega) (by omega) (by omega) (fun hb53_3 => ?_) (fun hb53_3 => ?_)
      · skip
        exact absurd hb53_3 (by decide)
      · skip
        refine j_aload_n rfl rfl ?_
        refine j_getR (q := 20) rfl f_X10_18 rfl (hS.lt (by decide)) (hS.k (by decide) (by decide)) (hS.r (by decide)) ?_
        refine j_iload rfl rfl ?_
        refine j_aload rfl rfl ?_
        refine j_iload rfl rfl ?_
        refine j_iload rfl rfl ?_
        refine j_callV (ci := 3) rfl okX3_feltAt c_X10_47 (ct_feltK ((((TF.rf o N).cell (c := 20) (Or.inl (by decide)) _ _).cell (c := 20) (Or.inl (by decide)) _ _).fg ho hA) (by decide) ht) rfl rfl hA.1.1 hA.1.2.1 (by decide) rfl (Nat.le_of_ble_eq_true rfl) (by decide) (by decide) ?_
        rintro vq mq ⟨e1, e2⟩
        rw [e1, e2]
        clear e1 e2
        simp only [Option.toList_some, Option.toList_none, List.cons_append, List.nil_append]
        rw [show FX3_feltAt (si (si N 20 (0 : Int).toNat (FX3_feltAt N a 0 t)) 20 (1 : Int).toNat (FX3_feltAt N a 1 t)) a 2 t = FX3_feltAt N a 2 t from TF.felt (((TF.rf o N).cell (c := 20) (Or.inl (by decide)) _ _).cell (c := 20) (Or.inl (by decide)) _ _) ho hA.2.1 _ _]
        have hfr := felt_rngK hA (k := 2) (i := t) (by decide)
        refine j_iast (n := 3) rfl (hS.lt (by decide)) (hS.k (by decide) (by decide)) (hS.n (by decide) (by decide)) (by omega) (by omega) (by first | decide | omega) ?_
        refine j_iinc rfl rfl (by decide) ?_
        refine j_goto (tgt := 50) rfl (by decide) ?_
        refine j_loc (ls' := [(0, vR 17), (1, vR 3), (2, vI W.nb), (3, vR o), (4, vR a), (5, vI t), (6, vI rest), (7, vI 3)]) rfl ?_
        refine j_iload rfl rfl ?_
        refine j_iconst rfl ?_
        refine j_icmp_ge (tgt := 78) rfl (by decide) (by omega) (by omega) (by omega) (by omega) (fun hb53_4 => ?_) (fun hb53_4 => ?_)
        · skip
          refine j_iconst rfl ?_
          refine j_istore rfl (by decide) ?_
          refine qJ_mem (m' := tk2 N a t) rfl ?_
          refine j_loc (ls' := [(0, vR 17), (1, vR 3), (2, vI W.nb), (3, vR o), (4, vR a), (5, vI t), (6, vI rest), (7, vI 0)]) rfl ?_
          exact K
        · skip
          exact absurd hb53_4 (by decide)

set_option maxRecDepth 20000 in
set_option maxHeartbeats 4000000 in
/-- all boxes do a tick at the class -/
theorem ct_tickK {G : QW} {m : AM} {o a : Nat} {W : ZW} {rest t : Int} {g : Prop} {S : ZS} (hG : GT m o W) (hA : FLG m a) (ht : 0 ≤ t ∧ t ≤ 199) (hr : -2147483648 ≤ rest ∧ rest < 2147483648) (hI : IM m) (hR : RC m o) (hC : CR m) (hJ : JC m o S) (hF : g → JF m o S) : qM G mX10_tick 4 0 0 [vR 17, vR 3, vI W.nb, vR o, vR a, vI t, vI rest] m (fun r N => r = none ∧ BI m o g N (zwTick W (feF m a t) t rest S) ∧ CR N) := by
  have hS := hG.1
  have ho := hG.2.1
  have hO := hG.2.2.1
  have hnb := hG.2.2.2.1.1
  obtain ⟨T1, i1, s1, r1, c1, j1, f1, h18, h19, h7⟩ := tk1_ok (t := t) ho hI hR hC hJ hF ht
  have hA1 := T1.fg ho hA
  have hK := tk2_ok ho T1 i1 s1 r1 c1 j1 f1 h18 h19 h7 ht hA1
  have hE : zwAl W (S.po, S.fa, feF (tk1 m o t) a t, t) rest W.nb.toNat 0 S = zwTick W (feF m a t) t rest S := by
    unfold zwTick
    rw [T1.fee ho hA.2.1]
  refine qM.intro okX10_tick (Nat.le_of_ble_eq_true rfl) ?_
  refine j_aload_n rfl rfl ?_
  refine j_aload_n rfl rfl ?_
  refine j_putR rfl f_X10_25 (fun _ => ⟨rfl, rfl⟩) rfl (hS.lt (by decide)) (hS.k (by decide) (by decide)) ?_
  refine j_aload_n rfl rfl ?_
  refine j_iload rfl rfl ?_
  refine j_putI rfl f_X10_29 rfl (hS.lt (by decide)) (hS.k (by decide) (by decide)) ?_
  refine j_aload_n rfl rfl ?_
  refine j_getR (q := (o + 2)) rfl f_X10_33 rfl hO.1 hO.2.1 (by rw [show mr (si (sr m 17 4 (some o)) 17 7 t) o 1 = mr m o 1 from if_neg (fun z => absurd z.2 (by decide))]; exact (hO.q 1 2 13 24 (by decide)).1) ?_
  refine j_iconst rfl ?_
  refine j_aload_n rfl rfl ?_
  refine j_getR (q := 18) rfl f_X10_9 rfl (hS.lt (by decide)) (hS.k (by decide) (by decide)) (hS.r (by decide)) ?_
  refine j_iconst rfl ?_
  refine j_aload_n rfl rfl ?_
  refine j_getR (q := 18) rfl f_X10_9 rfl (hS.lt (by decide)) (hS.k (by decide) (by decide)) (hS.r (by decide)) ?_
  refine j_alen (k := 13) (n := 24) rfl (hS.lt (by decide)) (hS.k (by decide) (by decide)) (by decide) (hS.n (by decide) (by decide)) ?_
  refine j_copyI (sp := 0) (dp := 0) (n := 24) rfl cp_X10_38 (hO.q 1 2 13 24 (by decide)).2.1 (hS.lt (by decide)) (hO.q 1 2 13 24 (by decide)).2.2.1 (hS.k (by decide) (by decide)) (Nat.le_of_eq ((hO.q 1 2 13 24 (by decide)).2.2.2).symm) (Nat.le_of_eq ((hS.n (by decide) (by decide))).symm) (by decide) (by decide) (by decide) (by decide) (by decide) ?_
  refine j_aload_n rfl rfl ?_
  refine j_getR (q := (o + 3)) rfl f_X10_44 rfl hO.1 hO.2.1 (by rw [show mr (cpi (si (sr m 17 4 (some o)) 17 7 t) 18 (o + 2) 0 0 24) o 2 = mr m o 2 from if_neg (fun z => absurd z.2 (by decide))]; exact (hO.q 2 3 13 6 (by decide)).1) ?_
  refine j_iconst rfl ?_
  refine j_aload_n rfl rfl ?_
  refine j_getR (q := 19) rfl f_X10_15 rfl (hS.lt (by decide)) (hS.k (by decide) (by decide)) (hS.r (by decide)) ?_
  refine j_iconst rfl ?_
  refine j_aload_n rfl rfl ?_
  refine j_getR (q := 19) rfl f_X10_15 rfl (hS.lt (by decide)) (hS.k (by decide) (by decide)) (hS.r (by decide)) ?_
  refine j_alen (k := 13) (n := 6) rfl (hS.lt (by decide)) (hS.k (by decide) (by decide)) (by decide) (hS.n (by decide) (by decide)) ?_
  refine j_copyI (sp := 0) (dp := 0) (n := 6) rfl cp_X10_38 (hO.q 2 3 13 6 (by decide)).2.1 (hS.lt (by decide)) (hO.q 2 3 13 6 (by decide)).2.2.1 (hS.k (by decide) (by decide)) (Nat.le_of_eq ((hO.q 2 3 13 6 (by decide)).2.2.2).symm) (Nat.le_of_eq ((hS.n (by decide) (by decide))).symm) (by decide) (by decide) (by decide) (by decide) (by decide) ?_
  refine j_iconst rfl ?_
  refine j_istore rfl (by decide) ?_
  refine qJ_mem (m' := tk1 m o t) rfl ?_
  refine j_loc (ls' := [(0, vR 17), (1, vR 3), (2, vI W.nb), (3, vR o), (4, vR a), (5, vI t), (6, vI rest), (7, vI 0)]) rfl ?_
  refine lp_tick_50 (T1.st hS) ho hA1 ht ?_
  exact lp_tick_81 hG hr (fun N h => ⟨rfl, h.1, h.2.2.1.cr h.2.2.2⟩) W.nb.toNat 0 _ S hK (by omega) (by decide) hE


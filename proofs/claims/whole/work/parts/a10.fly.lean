theorem IM.filG {m : AM} (h : IM m) {o : Nat} (a e : Int) {v : Int} (hv : (zi v).toInt = v) (hS : ∀ q ∈ imS, q.1 ≠ o) (hA : ∀ q ∈ imA, q.1 = o → q.2.1 ≤ v ∧ v ≤ q.2.2) (h3 : ¬ 139 = o) (h4 : ¬ 86 = o) (h5 : ∀ j : Nat, j < 6 → ¬ 68 + 3 * j = o) (h6 : ¬ 0 = o) : IM (fil m o a e v) := by
  refine ⟨fun q hq => ?_, fun q hq j => ?_, fun j hj => ?_⟩
  · rw [mi_fil, if_neg (fun z => hS q hq z.1)]
    exact h.1 q hq
  · rw [mi_fil]
    split
    · next z => rw [hv]; exact hA q hq z.1
    · exact h.2.1 q hq j
  · rw [mi_fil, if_neg (fun z => h3 z.1), mi_fil, if_neg (fun z => h4 z.1), mi_fil, if_neg (fun z => h5 j hj z.1), mi_fil, if_neg (fun z => h6 z.1)]
    exact h.2.2 j hj
theorem IM.filS {m : AM} (h : IM m) {o r : Nat} (ho : sto o) (hr : 1 ≤ r ∧ r ≤ 6) (a e : Int) {v : Int} (hv : v = 0 ∨ (r = 4 ∧ v = -1)) : IM (fil m (o + r) a e v) := by
  have hz : (zi v).toInt = v := by rcases hv with rfl | ⟨-, rfl⟩ <;> decide
  have hr2 : r = 1 ∨ r = 2 ∨ r = 3 ∨ r = 4 ∨ r = 5 ∨ r = 6 := by omega
  rcases hv with rfl | ⟨rfl, rfl⟩
  · rcases ho with rfl | rfl | rfl <;> rcases hr2 with rfl | rfl | rfl | rfl | rfl | rfl <;> exact h.filG a e hz (by decide) (by decide) (by decide) (by decide) (by decide) (by decide)
  · rcases ho with rfl | rfl | rfl <;> exact h.filG a e hz (by decide) (by decide) (by decide) (by decide) (by decide) (by decide)
theorem TF.fill {o : Nat} {m N : AM} (h : TF o m N) {c : Nat} (hc : tcl o c) (a e v : Int) : TF o m (fil N c a e v) := ⟨h.1, h.2.1, fun p j hp => by
  show (if p = c ∧ a ≤ (j : Int) ∧ (j : Int) < e then v else N.1 p j) = m.1 p j
  rw [if_neg (fun z => hp (by rw [z.1]; exact hc))]
  exact h.2.2.1 p j hp, h.2.2.2⟩
theorem begin_ok {m : AM} {o : Nat} (ho : sto o) (hI : IM m) (hR : RC m o) (hC : CR m) : BI m o True (FX9_begin m o) zwZero ∧ CR (FX9_begin m o) := by
  have ho2 := ho
  unfold sto at ho2
  have z0 : (zi 0).toInt = 0 := by decide
  have z1 : (zi (-1)).toInt = -1 := by decide
  have e : ∀ c j, ¬ (o ≤ c ∧ c ≤ o + 6) → mi (FX9_begin m o) c j = mi m c j := by
    intro c j hc
    unfold FX9_begin
    rw [mi_si_ne _ _ (by omega), mi_fil, if_neg (by omega), mi_fil, if_neg (by omega), mi_fil, if_neg (by omega), mi_fil, if_neg (by omega), mi_fil, if_neg (by omega), mi_fil, if_neg (by omega)]
  have e1 : ∀ j, mi (FX9_begin m o) (o + 1) j = if (j : Int) < 48 then 0 else mi m (o + 1) j := by
    intro j
    unfold FX9_begin
    rw [mi_si_ne _ _ (by omega), mi_fil, if_neg (by omega), mi_fil, if_neg (by omega), mi_fil, if_neg (by omega), mi_fil, if_neg (by omega), mi_fil, if_neg (by omega), mi_fil, z0]
    by_cases h : (j : Int) < 48
    · rw [if_pos ⟨rfl, by omega, h⟩, if_pos h]
    · rw [if_neg (fun q => h q.2.2), if_neg h]
  have e2 : ∀ j, mi (FX9_begin m o) (o + 2) j = if (j : Int) < 24 then 0 else mi m (o + 2) j := by
    intro j
    unfold FX9_begin
    rw [mi_si_ne _ _ (by omega), mi_fil, if_neg (by omega), mi_fil, if_neg (by omega), mi_fil, if_neg (by omega), mi_fil, if_neg (by omega), mi_fil, z0]
    by_cases h : (j : Int) < 24
    · rw [if_pos ⟨rfl, by omega, h⟩, if_pos h]
    · rw [if_neg (fun q => h q.2.2), if_neg h, mi_fil, if_neg (by omega)]
  have e3 : ∀ j, mi (FX9_begin m o) (o + 3) j = if (j : Int) < 6 then 0 else mi m (o + 3) j := by
    intro j
    unfold FX9_begin
    rw [mi_si_ne _ _ (by omega), mi_fil, if_neg (by omega), mi_fil, if_neg (by omega), mi_fil, if_neg (by omega), mi_fil, z0]
    by_cases h : (j : Int) < 6
    · rw [if_pos ⟨rfl, by omega, h⟩, if_pos h]
    · rw [if_neg (fun q => h q.2.2), if_neg h, mi_fil, if_neg (by omega), mi_fil, if_neg (by omega)]
  have e4 : ∀ j, mi (FX9_begin m o) (o + 4) j = if (j : Int) < 6 then -1 else mi m (o + 4) j := by
    intro j
    unfold FX9_begin
    rw [mi_si_ne _ _ (by omega), mi_fil, if_neg (by omega), mi_fil, if_neg (by omega), mi_fil, z1]
    by_cases h : (j : Int) < 6
    · rw [if_pos ⟨rfl, by omega, h⟩, if_pos h]
    · rw [if_neg (fun q => h q.2.2), if_neg h, mi_fil, if_neg (by omega), mi_fil, if_neg (by omega), mi_fil, if_neg (by omega)]
  have e5 : ∀ j, mi (FX9_begin m o) (o + 5) j = if (j : Int) < 6 then 0 else mi m (o + 5) j := by
    intro j
    unfold FX9_begin
    rw [mi_si_ne _ _ (by omega), mi_fil, if_neg (by omega), mi_fil, z0]
    by_cases h : (j : Int) < 6
    · rw [if_pos ⟨rfl, by omega, h⟩, if_pos h]
    · rw [if_neg (fun q => h q.2.2), if_neg h, mi_fil, if_neg (by omega), mi_fil, if_neg (by omega), mi_fil, if_neg (by omega), mi_fil, if_neg (by omega)]
  have e6 : ∀ j, mi (FX9_begin m o) (o + 6) j = if (j : Int) < 6 then 0 else mi m (o + 6) j := by
    intro j
    unfold FX9_begin
    rw [mi_si_ne _ _ (by omega), mi_fil, z0]
    by_cases h : (j : Int) < 6
    · rw [if_pos ⟨rfl, by omega, h⟩, if_pos h]
    · rw [if_neg (fun q => h q.2.2), if_neg h, mi_fil, if_neg (by omega), mi_fil, if_neg (by omega), mi_fil, if_neg (by omega), mi_fil, if_neg (by omega), mi_fil, if_neg (by omega)]
  have e7 : mi (FX9_begin m o) o 7 = 0 := by
    unfold FX9_begin
    exact mi_si_same _ _ _ (by decide) (by decide)
  refine ⟨⟨?_, ?_, ⟨fun j => ?_, fun j => ?_, fun j => ?_, fun j => ?_⟩, ⟨fun j hj => ?_, fun j hj => ?_, fun j hj => ?_, fun j hj => ?_, fun j hj => ?_, fun j hj => ?_, fun j hj => ?_, ?_, ?_⟩, fun _ => ⟨⟨fun _ => by decide, fun _ => e7⟩, fun q => absurd q (by decide)⟩⟩, ⟨fun j => ?_, fun j => ?_, fun j => ?_, ?_⟩⟩
  · unfold FX9_begin
    exact (((((((TF.rf o m).fill (Or.inr (by omega)) _ _ _).fill (Or.inr (by omega)) _ _ _).fill (Or.inr (by omega)) _ _ _).fill (Or.inr (by omega)) _ _ _).fill (Or.inr (by omega)) _ _ _).fill (Or.inr (by omega)) _ _ _).cell (Or.inr (by omega)) _ _
  · unfold FX9_begin
    exact IM.std (r := 0) ((((((hI.filS ho (r := 1) (by decide) _ _ (Or.inl rfl)).filS ho (r := 2) (by decide) _ _ (Or.inl rfl)).filS ho (r := 3) (by decide) _ _ (Or.inl rfl)).filS ho (r := 4) (by decide) _ _ (Or.inr ⟨rfl, rfl⟩)).filS ho (r := 5) (by decide) _ _ (Or.inl rfl)).filS ho (r := 6) (by decide) _ _ (Or.inl rfl)) ho (by decide) (by decide) (by decide) (by decide)
  · rw [e1]; have := hR.1 j; split <;> omega
  · rw [e2]; have := hR.2.1 j; split <;> omega
  · rw [e3]; have := hR.2.2.1 j; split <;> omega
  · rw [e4]; have := hR.2.2.2 j; split <;> omega
  · rw [e1, if_pos (by omega)]; rfl
  · rw [e2, if_pos (by omega)]; rfl
  · rw [e3, if_pos (by omega)]; rfl
  · rw [e4, if_pos (by omega)]; rfl
  · rw [e5, if_pos (by omega)]; rfl
  · rw [e6, if_pos (by omega)]; rfl
  · rw [e7, bt_0]; rfl
  · rw [e7]; decide
  · rw [e7]; decide
  · rw [e _ _ (by omega)]; exact hC.1 j
  · rw [e _ _ (by omega)]; exact hC.2.1 j
  · rw [e _ _ (by omega)]; exact hC.2.2.1 j
  · rw [e _ _ (by omega)]; exact hC.2.2.2
theorem dead_test {N : AM} {o : Nat} {S : ZS} (h : JC N o S) (u : Int) : z_iand (mi N o 7) u ≠ 0 ↔ zwDead u S = true := by
  obtain ⟨-, -, -, -, -, -, h7, h8, h9⟩ := h
  have hr := z_iand_rng (mi N o 7) u
  unfold zwDead
  rw [List.any_eq_true, Ne, zero_of hr.1 hr.2]
  constructor
  · intro q
    refine Decidable.byContradiction (fun n => q (fun i hi => ?_))
    rw [bt_and]
    by_cases h6 : i < 6
    · refine Decidable.byContradiction (fun z => n ⟨i, List.mem_range.mpr h6, ?_⟩)
      rw [h7 i h6] at z
      rw [Bool.and_comm]
      exact eq_true_of_ne_false z
    · rw [bt_hi h8 (show mi N o 7 < 2 ^ 6 by omega) (by decide) (by omega)]
      rfl
  · rintro ⟨i, hi, hb⟩ q
    have h6 := List.mem_range.mp hi
    have := q i (by omega)
    rw [bt_and, h7 i h6, Bool.and_comm, hb] at this
    exact absurd this (by decide)
theorem CR.kill {N : AM} (h : CR N) {o : Nat} (ho : sto o) (b f : Int) : CR (FX9_kill N o b f) := by
  obtain ⟨k1, -⟩ := kill_row N o b f
  unfold sto at ho
  refine ⟨fun j => ?_, fun j => ?_, fun j => ?_, ?_⟩
  · rw [k1 _ _ (by omega) (by omega) (by omega)]; exact h.1 j
  · rw [k1 _ _ (by omega) (by omega) (by omega)]; exact h.2.1 j
  · rw [k1 _ _ (by omega) (by omega) (by omega)]; exact h.2.2.1 j
  · rw [k1 _ _ (by omega) (by omega) (by omega)]; exact h.2.2.2
theorem nt0 {o : Nat} (ho : sto o) : ¬ tcl o 0 := by
  unfold sto at ho
  unfold tcl
  omega

theorem BI.next {m N N2 : AM} {o : Nat} {g : Prop} {S2 : ZS} (h : BI N o g N2 S2) (t : TF o m N) : BI m o g N2 S2 := ⟨t.trans h.1, h.2⟩

set_option maxRecDepth 20000 in
set_option maxHeartbeats 4000000 in
theorem lp_fly_7 {G : QW} {m : AM} {o a : Nat} {W : ZW} {n u : Int} {g : Prop} {E : ZS} {Rp : Option Vl → AM → Prop} (hG : GT m o W) (hn0 : mi m 0 16 = W.nb) (hA : FLG m a) (hu : -2147483648 ≤ u ∧ u < 2147483648) (hn : n ≤ 200) (hfin : ∀ N, BI m o g N E → CR N → Rp none N) : ∀ (c : Nat) (t : Int) (N : AM) (S : ZS), BI m o g N S → CR N → t + c = n → 0 ≤ t → zwRun (fun t S => zwTick W (feF m a t) t (-1) S) (zwDead u) c t S = E → qJ G mX11_fly { frames := 5, cells := 0, slots := 0, locals := 60 * 5 } (qF G Rp 0 0) 7 [(0, vR 0), (1, vR o), (2, vR a), (3, vI n), (4, vI u), (5, vI t)] [] N 0 0 := by
  intro c
  induction c with
  | zero =>
    intro t N S hB hC htn ht hE
    have e : S = E := hE
    subst e
    refine j_iload rfl rfl ?_
    refine j_iload_n rfl rfl ?_
    refine j_icmp_ge (tgt := 49) rfl (by decide) (by omega) (by omega) (by omega) (by omega) (fun hb84_1 => ?_) (fun hb84_1 => by exfalso; omega)
    refine j_vret rfl rfl ?_ rfl (Nat.le_refl _)
    exact hfin N hB hC
  | succ c ih =>
    intro t N S hB hC htn ht hE
    have hGN := hG.of hB.1
    have hS := hGN.1
    have hO := hGN.2.2.1
    have hAN := hB.1.fg hG.2.1 hA
    have hnb := hG.2.2.2.1.1
    have hn16 : mi N 0 16 = W.nb := (hB.1.cel (nt0 hG.2.1) 16).trans hn0
    have hfe : feF N a t = feF m a t := by rw [hB.1.fee hG.2.1 hA.2.1]
    refine j_iload rfl rfl ?_
    refine j_iload_n rfl rfl ?_
    refine j_icmp_ge (tgt := 49) rfl (by decide) (by omega) (by omega) (by omega) (by omega) (fun hb10_1 => ?_) (fun hb10_1 => ?_)
    · skip
      refine j_vret rfl rfl ?_ rfl (Nat.le_refl _)
      refine hfin N ?_ hC
      exfalso; omega
    · skip
      refine j_aload_n rfl rfl ?_
      refine j_getI rfl f_X11_201 rfl hO.1 hO.2.1 ?_
      have u14_1 := mi_rng N o 7
      refine j_iload rfl rfl ?_
      refine j_iand rfl ?_
      have z19_1 := z_iand_rng (mi N o 7) u
      refine j_if_ne (tgt := 49) rfl (by decide) (by omega) (by omega) (fun hb20_1 => ?_) (fun hb20_1 => ?_)
      · skip
        refine j_vret rfl rfl ?_ rfl (Nat.le_refl _)
        refine hfin N ?_ hC
        unfold zwRun at hE
        rw [if_pos ((dead_test hB.2.2.2.1 u).mp hb20_1)] at hE
        rw [← hE]
        exact hB
      · skip
        refine j_aload_n rfl rfl ?_
        refine j_getR (q := 17) rfl f_X11_51 rfl (hS.lt (by decide)) (hS.k (by decide) (by decide)) (hS.r (by decide)) ?_
        refine j_aload_n rfl rfl ?_
        refine j_getR (q := 3) rfl f_X11_18 rfl (hS.lt (by decide)) (hS.k (by decide) (by decide)) (hS.r (by decide)) ?_
        refine j_aload_n rfl rfl ?_
        refine j_getI rfl f_X11_113 rfl (hS.lt (by decide)) (hS.k (by decide) (by decide)) ?_
        have u32_1 := mi_rng N 0 16
        rw [hn16]
        refine j_aload_n rfl rfl ?_
        refine j_aload_n rfl rfl ?_
        refine j_iload rfl rfl ?_
        refine j_iconst rfl ?_
        refine j_callV (ci := 10) rfl okX10_tick c_X11_421 (ct_tickK (g := g) (S := S) hGN hAN (by omega) (by omega) hB.2.1 hB.2.2.1 hC hB.2.2.2.1 hB.2.2.2.2) rfl rfl (hS.lt (by decide)) (hS.k (by decide) (by decide)) (by decide) rfl (Nat.le_of_ble_eq_true rfl) (by decide) (by decide) ?_
        rintro vq mq ⟨e1, hB1, hC1⟩
        rw [e1]
        clear e1
        simp only [Option.toList_some, Option.toList_none, List.cons_append, List.nil_append]
        refine j_iinc rfl rfl (by decide) ?_
        refine j_goto (tgt := 7) rfl (by decide) ?_
        refine j_loc (ls' := [(0, vR 0), (1, vR o), (2, vR a), (3, vI n), (4, vI u), (5, vI (t + 1))]) rfl ?_
        have hE2 := hE
        unfold zwRun at hE2
        rw [if_neg (fun z => (dead_test hB.2.2.2.1 u).mpr z hb20_1)] at hE2
        rw [hfe] at hB1
        exact ih (t + 1) mq _ (hB1.next hB.1) hC1 (by omega) (by omega) hE2

set_option maxRecDepth 20000 in
set_option maxHeartbeats 4000000 in
/-- a flight is flown at the class, until one of the told boxes is dead -/
theorem ct_flyK {G : QW} {m : AM} {o a : Nat} {W : ZW} {n u : Int} (hG : GT m o W) (hn0 : mi m 0 16 = W.nb) (hA : FLG m a) (hu : -2147483648 ≤ u ∧ u < 2147483648) (hn1 : 0 ≤ n) (hn : n ≤ 200) (hI : IM m) (hR : RC m o) (hC : CR m) : qM G mX11_fly 5 0 0 [vR 0, vR o, vR a, vI n, vI u] m (fun r N => r = none ∧ BI m o True N (zwFly W (feF m a) n u) ∧ CR N) := by
  have hS := hG.1
  have hO := hG.2.2.1
  obtain ⟨hB0, hC0⟩ := begin_ok hG.2.1 hI hR hC
  refine qM.intro okX11_fly (Nat.le_of_ble_eq_true rfl) ?_
  refine j_aload_n rfl rfl ?_
  refine j_callV (ci := 9) rfl okX9_begin c_X11_418 (ct_X9_begin hO) rfl rfl hO.1 hO.2.1 (by decide) rfl (Nat.le_of_ble_eq_true rfl) (by decide) (by decide) ?_
  rintro vq mq ⟨e1, e2⟩
  rw [e1, e2]
  clear e1 e2
  simp only [Option.toList_some, Option.toList_none, List.cons_append, List.nil_append]
  refine j_iconst rfl ?_
  refine j_istore rfl (by decide) ?_
  refine j_loc (ls' := [(0, vR 0), (1, vR o), (2, vR a), (3, vI n), (4, vI u), (5, vI 0)]) rfl ?_
  exact lp_fly_7 hG hn0 hA hu hn (fun N h1 h2 => ⟨rfl, h1, h2⟩) n.toNat 0 _ zwZero hB0 hC0 (by omega) (by decide) rfl

set_option maxRecDepth 20000 in
set_option maxHeartbeats 4000000 in
theorem lp_flyWithout_10 {G : QW} {m : AM} {a : Nat} {W : ZW} {n b fr y : Int} {E : ZS} {Rp : Option Vl → AM → Prop} (hG : GT m 40 W) (hn0 : mi m 0 16 = W.nb) (hA : FLG m a) (hb : 0 ≤ b ∧ b ≤ 5) (hfr : -2147483648 ≤ fr ∧ fr < 2147483648) (hy : 0 ≤ y ∧ y ≤ 9) (hn : n ≤ 200) (hfin : ∀ N, BI m 40 False N E → CR N → Rp none N) : ∀ (c : Nat) (t : Int) (N : AM) (S : ZS), BI m 40 False N S → CR N → t + c = n → 0 ≤ t → zwRun (zwStep W (feF m a) b fr y) (fun _ => false) c t S = E → qJ G mX11_flyWithout { frames := 5, cells := 0, slots := 0, locals := 60 * 5 } (qF G Rp 0 0) 10 [(0, vR 0), (1, vI b), (2, vI fr), (3, vR a), (4, vI n), (5, vI y), (6, vI t)] [] N 0 0 := by
  intro c
  induction c with
  | zero =>
    intro t N S hB hC htn ht hE
    have e : S = E := hE
    subst e
    refine j_iload rfl rfl ?_
    refine j_iload rfl rfl ?_
    refine j_icmp_ge (tgt := 77) rfl (by decide) (by omega) (by omega) (by omega) (by omega) (fun hb84_1 => ?_) (fun hb84_1 => by exfalso; omega)
    refine j_vret rfl rfl ?_ rfl (Nat.le_refl _)
    exact hfin N hB hC
  | succ c ih =>
    intro t N S hB hC htn ht hE
    have hGN := hG.of hB.1
    have hS := hGN.1
    have hO := hGN.2.2.1
    have hAN := hB.1.fg hG.2.1 hA
    have hnb := hG.2.2.2.1.1
    have hn16 : mi N 0 16 = W.nb := (hB.1.cel (nt0 hG.2.1) 16).trans hn0
    have hfe : feF N a t = feF m a t := by rw [hB.1.fee hG.2.1 hA.2.1]
    refine j_iload rfl rfl ?_
    refine j_iload rfl rfl ?_
    refine j_icmp_ge (tgt := 77) rfl (by decide) (by omega) (by omega) (by omega) (by omega) (fun hb14_1 => ?_) (fun hb14_1 => ?_)
    · skip
      exfalso; omega
    · skip
      refine j_aload_n rfl rfl ?_
      refine j_getR (q := 17) rfl f_X11_51 rfl (hS.lt (by decide)) (hS.k (by decide) (by decide)) (hS.r (by decide)) ?_
      refine j_aload_n rfl rfl ?_
      refine j_getR (q := 3) rfl f_X11_18 rfl (hS.lt (by decide)) (hS.k (by decide) (by decide)) (hS.r (by decide)) ?_
      refine j_aload_n rfl rfl ?_
      refine j_getI rfl f_X11_113 rfl (hS.lt (by decide)) (hS.k (by decide) (by decide)) ?_
      have u26_1 := mi_rng N 0 16
      rw [hn16]
      refine j_aload_n rfl rfl ?_
      refine j_getR (q := 40) rfl f_X11_72 rfl (hS.lt (by decide)) (hS.k (by decide) (by decide)) (hS.r (by decide)) ?_
      refine j_aload_n rfl rfl ?_
      refine j_iload rfl rfl ?_
      refine j_iload rfl rfl ?_
      refine j_iload_n rfl rfl ?_
      refine j_icmp_ge (tgt := 46) rfl (by decide) (by omega) (by omega) (by omega) (by omega) (fun hb39_1 => ?_) (fun hb39_1 => ?_)
      · skip
        refine j_iload_n rfl rfl ?_
        refine j_callV (ci := 10) rfl okX10_tick c_X11_421 (ct_tickK (g := False) (S := S) hGN hAN (by omega) (by omega) hB.2.1 hB.2.2.1 hC hB.2.2.2.1 hB.2.2.2.2) rfl rfl (hS.lt (by decide)) (hS.k (by decide) (by decide)) (by decide) rfl (Nat.le_of_ble_eq_true rfl) (by decide) (by decide) ?_
        rintro vq mq ⟨e1, hB1, hC1⟩
        rw [e1]
        clear e1
        simp only [Option.toList_some, Option.toList_none, List.cons_append, List.nil_append]
        rw [hfe] at hB1
        have hS := (hGN.of hB1.1).1
        have hO := (hGN.of hB1.1).2.2.1
        refine j_iload rfl rfl ?_
        refine j_iload_n rfl rfl ?_
        refine j_icmp_lt (tgt := 71) rfl (by decide) (by omega) (by omega) (by omega) (by omega) (fun hb53_1 => ?_) (fun hb53_1 => ?_)
        · skip
          refine j_iinc rfl rfl (by decide) ?_
          refine j_goto (tgt := 10) rfl (by decide) ?_
          exfalso; omega
        · skip
          refine j_iload rfl rfl ?_
          refine j_if_eq (tgt := 71) rfl (by decide) (by omega) (by omega) (fun hb58_1 => ?_) (fun hb58_1 => ?_)
          · skip
            refine j_iinc rfl rfl (by decide) ?_
            refine j_goto (tgt := 10) rfl (by decide) ?_
            refine j_loc (ls' := [(0, vR 0), (1, vI b), (2, vI fr), (3, vR a), (4, vI n), (5, vI y), (6, vI (t + 1))]) rfl ?_
            have hE2 := hE
            unfold zwRun zwStep at hE2
            rw [if_neg (by decide), if_neg (by omega), if_neg (by omega)] at hE2
            exact ih (t + 1) mq _ (hB1.next hB.1) hC1 (by omega) (by omega) hE2
          · skip
            refine j_aload_n rfl rfl ?_
            refine j_getR (q := 40) rfl f_X11_72 rfl (hS.lt (by decide)) (hS.k (by decide) (by decide)) (hS.r (by decide)) ?_
            refine j_iload_n rfl rfl ?_
            refine j_iload rfl rfl ?_
            refine j_callV (ci := 9) rfl okX9_kill c_X11_425 (ct_X9_kill hO hb (by omega) (by omega)) rfl rfl hO.1 hO.2.1 (by decide) rfl (Nat.le_of_ble_eq_true rfl) (by decide) (by decide) ?_
            rintro vq mq ⟨e1, e2⟩
            rw [e1, e2]
            clear e1 e2
            simp only [Option.toList_some, Option.toList_none, List.cons_append, List.nil_append]
            refine j_iinc rfl rfl (by decide) ?_
            refine j_goto (tgt := 10) rfl (by decide) ?_
            refine j_loc (ls' := [(0, vR 0), (1, vI b), (2, vI fr), (3, vR a), (4, vI n), (5, vI y), (6, vI (t + 1))]) rfl ?_
            have hE2 := hE
            unfold zwRun zwStep at hE2
            rw [if_neg (by decide), if_pos ⟨by omega, by omega⟩, if_neg (by omega)] at hE2
            exact ih (t + 1) _ _ (BI.kill (g := False) hG.2.1 (hB1.next hB.1) hb (by omega)) (hC1.kill hG.2.1 _ _) (by omega) (by omega) hE2
      · skip
        refine j_iconst rfl ?_
        refine j_goto (tgt := 47) rfl (by decide) ?_
        refine j_callV (ci := 10) rfl okX10_tick c_X11_421 (ct_tickK (g := False) (S := S) hGN hAN (by omega) (by omega) hB.2.1 hB.2.2.1 hC hB.2.2.2.1 hB.2.2.2.2) rfl rfl (hS.lt (by decide)) (hS.k (by decide) (by decide)) (by decide) rfl (Nat.le_of_ble_eq_true rfl) (by decide) (by decide) ?_
        rintro vq mq ⟨e1, hB1, hC1⟩
        rw [e1]
        clear e1
        simp only [Option.toList_some, Option.toList_none, List.cons_append, List.nil_append]
        rw [hfe] at hB1
        have hS := (hGN.of hB1.1).1
        have hO := (hGN.of hB1.1).2.2.1
        refine j_iload rfl rfl ?_
        refine j_iload_n rfl rfl ?_
        refine j_icmp_lt (tgt := 71) rfl (by decide) (by omega) (by omega) (by omega) (by omega) (fun hb53_2 => ?_) (fun hb53_2 => ?_)
        · skip
          refine j_iinc rfl rfl (by decide) ?_
          refine j_goto (tgt := 10) rfl (by decide) ?_
          refine j_loc (ls' := [(0, vR 0), (1, vI b), (2, vI fr), (3, vR a), (4, vI n), (5, vI y), (6, vI (t + 1))]) rfl ?_
          have hE2 := hE
          unfold zwRun zwStep at hE2
          rw [if_neg (by decide), if_neg (by omega), if_pos (by omega)] at hE2
          exact ih (t + 1) mq _ (hB1.next hB.1) hC1 (by omega) (by omega) hE2
        · skip
          refine j_iload rfl rfl ?_
          refine j_if_eq (tgt := 71) rfl (by decide) (by omega) (by omega) (fun hb58_2 => ?_) (fun hb58_2 => ?_)
          · skip
            refine j_iinc rfl rfl (by decide) ?_
            refine j_goto (tgt := 10) rfl (by decide) ?_
            exfalso; omega
          · skip
            refine j_aload_n rfl rfl ?_
            refine j_getR (q := 40) rfl f_X11_72 rfl (hS.lt (by decide)) (hS.k (by decide) (by decide)) (hS.r (by decide)) ?_
            refine j_iload_n rfl rfl ?_
            refine j_iload rfl rfl ?_
            refine j_callV (ci := 9) rfl okX9_kill c_X11_425 (ct_X9_kill hO hb (by omega) (by omega)) rfl rfl hO.1 hO.2.1 (by decide) rfl (Nat.le_of_ble_eq_true rfl) (by decide) (by decide) ?_
            rintro vq mq ⟨e1, e2⟩
            rw [e1, e2]
            clear e1 e2
            simp only [Option.toList_some, Option.toList_none, List.cons_append, List.nil_append]
            refine j_iinc rfl rfl (by decide) ?_
            refine j_goto (tgt := 10) rfl (by decide) ?_
            exfalso; omega

set_option maxRecDepth 20000 in
set_option maxHeartbeats 4000000 in
/-- a flight is flown at the class with a box that rests or fails from a tick on -/
theorem ct_flyWithoutK {G : QW} {m : AM} {a : Nat} {W : ZW} {n b fr y : Int} (hG : GT m 40 W) (hn0 : mi m 0 16 = W.nb) (hA : FLG m a) (hb : 0 ≤ b ∧ b ≤ 5) (hfr : -2147483648 ≤ fr ∧ fr < 2147483648) (hy : 0 ≤ y ∧ y ≤ 9) (hn1 : 0 ≤ n) (hn : n ≤ 200) (hI : IM m) (hR : RC m 40) (hC : CR m) : qM G mX11_flyWithout 5 0 0 [vR 0, vI b, vI fr, vR a, vI n, vI y] m (fun r N => r = none ∧ BI m 40 False N (zwFlyX W (feF m a) n b fr y) ∧ CR N) := by
  have hS := hG.1
  have hO := hG.2.2.1
  obtain ⟨hBT, hC0⟩ := begin_ok hG.2.1 hI hR hC
  have hB0 : BI m 40 False (FX9_begin m 40) zwZero := ⟨hBT.1, hBT.2.1, hBT.2.2.1, hBT.2.2.2.1, fun q => q.elim⟩
  refine qM.intro okX11_flyWithout (Nat.le_of_ble_eq_true rfl) ?_
  refine j_aload_n rfl rfl ?_
  refine j_getR (q := 40) rfl f_X11_72 rfl (hS.lt (by decide)) (hS.k (by decide) (by decide)) (hS.r (by decide)) ?_
  refine j_callV (ci := 9) rfl okX9_begin c_X11_418 (ct_X9_begin hO) rfl rfl hO.1 hO.2.1 (by decide) rfl (Nat.le_of_ble_eq_true rfl) (by decide) (by decide) ?_
  rintro vq mq ⟨e1, e2⟩
  rw [e1, e2]
  clear e1 e2
  simp only [Option.toList_some, Option.toList_none, List.cons_append, List.nil_append]
  refine j_iconst rfl ?_
  refine j_istore rfl (by decide) ?_
  refine j_loc (ls' := [(0, vR 0), (1, vI b), (2, vI fr), (3, vR a), (4, vI n), (5, vI y), (6, vI 0)]) rfl ?_
  exact lp_flyWithout_10 hG hn0 hA hb hfr hy hn (fun N h1 h2 => ⟨rfl, h1, h2⟩) n.toNat 0 _ zwZero hB0 hC0 (by omega) (by decide) rfl


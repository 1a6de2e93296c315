theorem QU.lemK {m N : AM} (h : QU m N) {c j : Nat} (hc : (6 ≤ c ∧ c ≤ 11) ∨ (133 ≤ c ∧ c ≤ 137)) : mi N c j = mi m c j := h.2.2.1 c j (by unfold NQ; omega)
theorem ouI_cg {m N : AM} (e5 : mi N 6 5 = mi m 6 5) (e10 : mi N 10 = mi m 10) (e11 : mi N 11 = mi m 11) (so : Int) (n : Nat) : ouI N so n = ouI m so n := by
  have es : ∀ w n, seC N w n = seC m w n := by
    intro w n
    induction n with
    | zero => rfl
    | succ n ih => show z_ior (seC N w n) _ = z_ior (seC m w n) _; rw [ih, e10]
  have eb : ∀ q p, blP N so q p = blP m so q p := fun q p => by unfold blP seX; rw [e10, e11, es, e5]
  have ei : ∀ q n w, inI N so q n w = inI m so q n w := by
    intro q n
    induction n with
    | zero => intro w; rfl
    | succ n ih =>
      intro w
      by_cases c : blP m so q n
      · have c2 : blP N so q n := by rw [eb]; exact c
        have e1 : inI N so q (n + 1) w = z_ior (inI N so q n w) (z_ishl 1 q) := @if_pos _ (Classical.propDecidable _) c2 _ _ _
        have e2 : inI m so q (n + 1) w = z_ior (inI m so q n w) (z_ishl 1 q) := @if_pos _ (Classical.propDecidable _) c _ _ _
        rw [e1, e2, ih]
      · have c2 : ¬ blP N so q n := by rw [eb]; exact c
        have e1 : inI N so q (n + 1) w = inI N so q n w := @if_neg _ (Classical.propDecidable _) c2 _ _ _
        have e2 : inI m so q (n + 1) w = inI m so q n w := @if_neg _ (Classical.propDecidable _) c _ _ _
        rw [e1, e2, ih]
  induction n with
  | zero => rfl
  | succ n ih => show inI N so n (mi N 6 5).toNat (ouI N so n) = inI m so n (mi m 6 5).toNat (ouI m so n); rw [ih, ei, e5]

theorem qM_end {G : QW} {md : MD} {R : Room} {pc mc ms : Nat} {ls : List (Nat × Vl)} {st : List Vl} {m : AM} {cc cs : Nat} {Rp Rp' : Option Vl → AM → Prop} (h : ∀ r N, Rp r N → Rp' r N) (k : qJ G md R (qF G Rp mc ms) pc ls st m cc cs) : qJ G md R (qF G Rp' mc ms) pc ls st m cc cs := by
  intro p e s mm args below meth c C H locs lsc hH hz hS hl T hT X
  obtain ⟨t, a, a1, x1, x2, hQ, x3⟩ := k p e s mm args below meth c C H locs lsc hH hz hS hl T hT X
  obtain ⟨v, m', q1, q2, q3⟩ := hQ
  exact ⟨t, a, a1, x1, x2, ⟨v, m', q1, h _ _ q2, q3⟩, x3⟩

set_option maxRecDepth 20000 in
set_option maxHeartbeats 4000000 in
theorem lp_holdsC {G : QW} {m : AM} {k p : Int} (h : QR m) (h4 : K4 m) (h6 : K6 m) (hk : 0 ≤ k ∧ k ≤ 1) (hp : 0 ≤ p ∧ p < mi m 86 70) : ∀ (c : Nat) (q : Int) (N : AM), CU m N → QR N → q + c = p + 1 → 0 ≤ q → (∀ j : Nat, (j : Int) < q → bt (mi m 10 p.toNat) j = true → soV m k j = 1) → qJ G mX11_holds { frames := 7, cells := 0, slots := 0, locals := 60 * 7 } (qF G (fun r N2 => CU m N2 ∧ QR N2 ∧ ((hP m k p.toNat ∧ r = some (vI 1)) ∨ (¬ hP m k p.toNat ∧ r = some (vI 0)))) 0 0) 30 [(0, vR 0), (1, vI k), (2, vI p), (3, vI (mi m 10 p.toNat)), (4, vI q)] [] N 0 0 := by
  have h70 := h.i.s 86 70 0 20 (by decide)
  intro c
  induction c with
  | zero =>
    intro q N hC hQ2 hc hq0 hh
    refine j_iload rfl rfl ?_
    refine j_iload_n rfl rfl ?_
    refine j_icmp_gt (tgt := 64) rfl (by decide) (by omega) (by omega) (by omega) (by omega) (fun hb => ?_) (fun hb => by exfalso; omega)
    refine j_iconst rfl ?_
    refine j_iret rfl rfl ?_ rfl (Nat.le_refl _)
    exact ⟨hC, hQ2, Or.inl ⟨fun j hj g => hh j (by have := al_le h h6 hj 20 p.toNat (by omega) (by omega) g; omega) g, rfl⟩⟩
  | succ c ih =>
    intro q N hC hQ2 hc hq0 hh
    have hS := hQ2.s
    have e70 : mi N 86 70 = mi m 86 70 := hC.2.1 86 70 (by decide) (by decide)
    refine j_iload rfl rfl ?_
    refine j_iload_n rfl rfl ?_
    refine j_icmp_gt (tgt := 64) rfl (by decide) (by omega) (by omega) (by omega) (by omega) (fun hb33_1 => ?_) (fun hb33_1 => ?_)
    · skip
      exfalso
      omega
    · skip
      refine j_iload_n rfl rfl ?_
      refine j_iload rfl rfl ?_
      refine j_ishr rfl ?_
      have z39_1 := z_ishr_rng (mi m 10 p.toNat) q
      refine j_iconst rfl ?_
      refine j_iand rfl ?_
      have z41_1 := z_iand_rng (z_ishr (mi m 10 p.toNat) q) 1
      refine j_iconst rfl ?_
      refine j_icmp_ne (tgt := 58) rfl (by decide) (by omega) (by omega) (by omega) (by omega) (fun hb43_1 => ?_) (fun hb43_1 => ?_)
      · skip
        refine j_iinc rfl rfl (by decide) ?_
        refine j_goto (tgt := 30) rfl (by decide) ?_
        refine j_loc (ls' := [(0, vR 0), (1, vI k), (2, vI p), (3, vI (mi m 10 p.toNat)), (4, vI (q + 1))]) rfl ?_
        refine ih (q + 1) N hC hQ2 (by omega) (by omega) (fun j hj g => by
            by_cases z : j = q.toNat
            · rw [z] at g ⊢; rw [bitI _ hq0 (by omega)] at hb43_1; rw [if_pos g] at hb43_1; exact absurd rfl hb43_1
            · exact hh j (by omega) g)
      · skip
        refine j_aload_n rfl rfl ?_
        refine j_iload_n rfl rfl ?_
        refine j_iload rfl rfl ?_
        refine j_callV (ci := 11) rfl okX11_isSo c_X11_340 (ct_isSo hQ2 (hC.1.k4 h4) (hC.1.k6 h6) hk (p := q) (by rw [e70]; omega)) rfl rfl (hS.lt (by decide)) (hS.k (by decide) (by decide)) (by decide) rfl (Nat.le_of_ble_eq_true rfl) (by decide) (by decide) ?_
        rintro vq K ⟨hC2, hQ3, e1⟩
        rw [e1, hC.1.so h k (p := q) (by omega)]
        clear e1
        simp only [Option.toList_some, Option.toList_none, List.cons_append, List.nil_append]
        have hC := hC.trans hC2
        have hS := hQ3.s
        have s01 := soV_01 m k q
        refine j_if_ne (tgt := 58) rfl (by decide) (by omega) (by omega) (fun hb53_1 => ?_) (fun hb53_1 => ?_)
        · skip
          refine j_iinc rfl rfl (by decide) ?_
          refine j_goto (tgt := 30) rfl (by decide) ?_
          refine j_loc (ls' := [(0, vR 0), (1, vI k), (2, vI p), (3, vI (mi m 10 p.toNat)), (4, vI (q + 1))]) rfl ?_
          refine ih (q + 1) K hC hQ3 (by omega) (by omega) (fun j hj g => by
              by_cases z : j = q.toNat
              · rw [z] at g ⊢; rw [show ((q.toNat : Nat) : Int) = q by omega]; omega
              · exact hh j (by omega) g)
        · skip
          refine j_iconst rfl ?_
          refine j_iret rfl rfl ?_ rfl (Nat.le_refl _)
          refine ⟨hC, hQ3, Or.inr ⟨fun g => ?_, rfl⟩⟩
          have bq : bt (mi m 10 p.toNat) q.toNat = true := by
            by_cases z : bt (mi m 10 p.toNat) q.toNat = true
            · exact z
            · have w := bitI (mi m 10 p.toNat) hq0 (show q < 32 by omega)
              rw [if_neg z] at w
              omega
          have := g q.toNat (by omega) bq
          rw [show ((q.toNat : Nat) : Int) = q by omega] at this
          omega

set_option maxRecDepth 20000 in
set_option maxHeartbeats 4000000 in
/-- holds() of the class -/
theorem cr_holds {G : QW} {m : AM} {k p : Int} (h : QR m) (h4 : K4 m) (h6 : K6 m) (hk1 : -2147483648 ≤ k) (hk2 : k < 2147483648) (hp1 : -2147483648 ≤ p) (hp2 : p < 2147483648) : qM G mX11_holds 7 0 0 [vR 0, vI k, vI p] m (fun r N2 => (((0 ≤ k ∧ k ≤ 1) ∧ (0 ≤ p ∧ p < mi m 86 70)) → CU m N2 ∧ QR N2 ∧ ((hP m k p.toNat ∧ r = some (vI 1)) ∨ (¬ hP m k p.toNat ∧ r = some (vI 0)))) ∧ (¬ ((0 ≤ k ∧ k ≤ 1) ∧ (0 ≤ p ∧ p < mi m 86 70)) → r = some (vI (-1)) ∧ N2 = m)) := by
  have hS := h.s
  have hI := h.i
  have h65 := hI.s 6 5 0 20 (by decide)
  refine qM.intro okX11_holds (Nat.le_of_ble_eq_true rfl) ?_
  refine j_iload_n rfl rfl ?_
  refine j_callS (As := [_]) rfl okX11_isMachine c_X11_229 (ct_X11_isMachine (by omega) (by omega)) rfl rfl (Nat.le_of_ble_eq_true rfl) (by decide) (by decide) ?_
  rintro vq mq ⟨e1, e2⟩
  rw [e1, e2]
  clear e1 e2
  simp only [Option.toList_some, Option.toList_none, List.cons_append, List.nil_append]
  refine j_bif_eq (tgt := 15) rfl (by decide) (fun hb4_1 => ?_) (fun hb4_1 => ?_)
  · skip
    refine j_iconst rfl ?_
    refine j_iret rfl rfl ?_ rfl (Nat.le_refl _)
    exact ⟨fun z => by exfalso; exact hb4_1 z.1, fun _ => ⟨rfl, rfl⟩⟩
  · skip
    refine j_aload_n rfl rfl ?_
    refine j_iload_n rfl rfl ?_
    refine j_callV (ci := 11) rfl okX11_isPaper c_X11_334 (ct_X11_isPaper hS hI (by omega) (by omega)) rfl rfl (hS.lt (by decide)) (hS.k (by decide) (by decide)) (by decide) rfl (Nat.le_of_ble_eq_true rfl) (by decide) (by decide) ?_
    rintro vq mq ⟨e1, e2⟩
    rw [e1, e2]
    clear e1 e2
    simp only [Option.toList_some, Option.toList_none, List.cons_append, List.nil_append]
    have w1 := hI.s 6 5 (0) 20 (by decide)
    refine j_bif_ne (tgt := 17) rfl (by decide) (fun hb12_1 => ?_) (fun hb12_1 => ?_)
    · skip
      refine j_aload_n rfl rfl ?_
      refine j_getR (q := 6) rfl f_X11_37 rfl (hS.lt (by decide)) (hS.k (by decide) (by decide)) (hS.r (by decide)) ?_
      refine j_getR (q := 10) rfl f_X11_337 rfl (hS.lt (by decide)) (hS.k (by decide) (by decide)) (hS.r (by decide)) ?_
      refine j_iload_n rfl rfl ?_
      refine j_iald (n := 20) rfl (hS.lt (by decide)) (hS.k (by decide) (by decide)) (hS.n (by decide) (by decide)) (by omega) (by omega) (by decide) ?_
      have u25_1 := mi_rng m 10 p.toNat
      refine j_istore_n rfl (by decide) ?_
      refine j_iconst rfl ?_
      refine j_istore rfl (by decide) ?_
      refine j_loc (ls' := [(0, vR 0), (1, vI k), (2, vI p), (3, vI (mi m 10 p.toNat)), (4, vI 0)]) rfl ?_
      refine qM_end (fun r N2 z => ⟨fun _ => z, fun z2 => absurd ⟨hb4_1, by rw [← h6.1]; exact hb12_1⟩ z2⟩) ?_
      exact lp_holdsC h h4 h6 hb4_1 (by rw [← h6.1]; exact hb12_1) (p + 1).toNat 0 m (CU.rf m) h (by have := hb12_1; omega) (by decide) (fun j hj => by omega)
    · skip
      refine j_iconst rfl ?_
      refine j_iret rfl rfl ?_ rfl (Nat.le_refl _)
      exact ⟨fun z => by exfalso; exact hb12_1 (by rw [h6.1]; exact z.2), fun _ => ⟨rfl, rfl⟩⟩

set_option maxRecDepth 20000 in
set_option maxHeartbeats 4000000 in
theorem lp_blindC {G : QW} {m : AM} {k : Int} {Rp : Option Vl → AM → Prop} (h : QR m) (h4 : K4 m) (h6 : K6 m) (hk : 0 ≤ k ∧ k ≤ 1) (hexit : ∀ N, CU m N → QR N → qJ G mX11_blind { frames := 7, cells := 0, slots := 0, locals := 60 * 7 } (qF G Rp 0 0) 49 [(0, vR 0), (1, vI k), (2, vI (soB m k))] [] N 0 0) : ∀ (c : Nat) (q : Int) (N : AM), CU m N → QR N → q + c = mi m 86 70 → 0 ≤ q → qJ G mX11_blind { frames := 7, cells := 0, slots := 0, locals := 60 * 7 } (qF G Rp 0 0) 13 [(0, vR 0), (1, vI k), (2, vI (orL (fun j => soV m k j) q.toNat)), (3, vI q)] [] N 0 0 := by
  have h70 := h.i.s 86 70 0 20 (by decide)
  intro c
  induction c with
  | zero =>
    intro q N hC hQ2 hc hq0
    have hS := hQ2.s
    have e5 : mi N 6 5 = mi m 86 70 := (hC.1.lemK (by omega)).trans h6.1
    refine j_iload_n rfl rfl ?_
    refine j_aload_n rfl rfl ?_
    refine j_getR (q := 6) rfl f_X11_37 rfl (hS.lt (by decide)) (hS.k (by decide) (by decide)) (hS.r (by decide)) ?_
    refine j_getI rfl f_X11_324 rfl (hS.lt (by decide)) (hS.k (by decide) (by decide)) ?_
    rw [e5]
    refine j_icmp_ge (tgt := 49) rfl (by decide) (by omega) (by omega) (by omega) (by omega) (fun hb => ?_) (fun hb => by exfalso; omega)
    refine j_loc (ls' := [(0, vR 0), (1, vI k), (2, vI (orL (fun j => soV m k j) q.toNat))]) rfl ?_
    have hx := hexit N hC hQ2
    unfold soB at hx
    rw [show mi m 86 70 = q by omega] at hx
    exact hx
  | succ c ih =>
    intro q N hC hQ2 hc hq0
    have hS := hQ2.s
    have e70 : mi N 86 70 = mi m 86 70 := hC.2.1 86 70 (by decide) (by decide)
    have e5 : mi N 6 5 = mi m 86 70 := (hC.1.lemK (by omega)).trans h6.1
    refine j_iload_n rfl rfl ?_
    refine j_aload_n rfl rfl ?_
    refine j_getR (q := 6) rfl f_X11_37 rfl (hS.lt (by decide)) (hS.k (by decide) (by decide)) (hS.r (by decide)) ?_
    refine j_getI rfl f_X11_324 rfl (hS.lt (by decide)) (hS.k (by decide) (by decide)) ?_
    have u18_1 := mi_rng N 6 5
    rw [e5]
    refine j_icmp_ge (tgt := 49) rfl (by decide) (by omega) (by omega) (by omega) (by omega) (fun hb21_1 => ?_) (fun hb21_1 => ?_)
    · skip
      exfalso
      omega
    · skip
      refine j_iload_n rfl rfl ?_
      refine j_aload_n rfl rfl ?_
      refine j_iload_n rfl rfl ?_
      refine j_iload_n rfl rfl ?_
      refine j_callV (ci := 11) rfl okX11_isSo c_X11_340 (ct_isSo hQ2 (hC.1.k4 h4) (hC.1.k6 h6) hk (p := q) (by rw [e70]; omega)) rfl rfl (hS.lt (by decide)) (hS.k (by decide) (by decide)) (by decide) rfl (Nat.le_of_ble_eq_true rfl) (by decide) (by decide) ?_
      rintro vq K ⟨hC2, hQ3, e1⟩
      rw [e1, hC.1.so h k (p := q) (by omega)]
      clear e1
      simp only [Option.toList_some, Option.toList_none, List.cons_append, List.nil_append]
      have hC := hC.trans hC2
      have hS := hQ3.s
      have s01 := soV_01 m k q
      refine j_if_eq (tgt := 40) rfl (by decide) (by omega) (by omega) (fun hb31_1 => ?_) (fun hb31_1 => ?_)
      · skip
        refine j_iconst rfl ?_
        refine j_ior rfl ?_
        have z41_1 := z_ior_rng (orL (fun j => soV m k j) q.toNat) 0
        refine j_istore_n rfl (by decide) ?_
        refine j_iinc rfl rfl (by decide) ?_
        refine j_goto (tgt := 13) rfl (by decide) ?_
        refine j_loc (ls' := [(0, vR 0), (1, vI k), (2, vI (z_ior (orL (fun j => soV m k j) q.toNat) 0)), (3, vI (q + 1))]) rfl ?_
        have hor := orL_rng (fun j => soV m k j) q.toNat
        have eu : orL (fun j => soV m k j) (q + 1).toNat = if soV m k q ≠ 0 then z_ior (orL (fun j => soV m k j) q.toNat) (z_ishl 1 q) else (orL (fun j => soV m k j) q.toNat) := by rw [orL_up hq0]; rw [show ((q.toNat : Nat) : Int) = q by omega]
        rw [zor_0 hor.1 hor.2]
        rw [if_neg (by omega)] at eu
        rw [← eu]
        exact ih (q + 1) K hC hQ3 (by omega) (by omega)
      · skip
        refine j_iconst rfl ?_
        refine j_iload_n rfl rfl ?_
        refine j_ishl rfl ?_
        have z36_1 := z_ishl_rng 1 q
        refine j_goto (tgt := 41) rfl (by decide) ?_
        refine j_ior rfl ?_
        have z41_2 := z_ior_rng (orL (fun j => soV m k j) q.toNat) (z_ishl 1 q)
        refine j_istore_n rfl (by decide) ?_
        refine j_iinc rfl rfl (by decide) ?_
        refine j_goto (tgt := 13) rfl (by decide) ?_
        refine j_loc (ls' := [(0, vR 0), (1, vI k), (2, vI (z_ior (orL (fun j => soV m k j) q.toNat) (z_ishl 1 q))), (3, vI (q + 1))]) rfl ?_
        have hor := orL_rng (fun j => soV m k j) q.toNat
        have eu : orL (fun j => soV m k j) (q + 1).toNat = if soV m k q ≠ 0 then z_ior (orL (fun j => soV m k j) q.toNat) (z_ishl 1 q) else (orL (fun j => soV m k j) q.toNat) := by rw [orL_up hq0]; rw [show ((q.toNat : Nat) : Int) = q by omega]
        rw [if_pos (by omega)] at eu
        rw [← eu]
        exact ih (q + 1) K hC hQ3 (by omega) (by omega)

set_option maxRecDepth 20000 in
set_option maxHeartbeats 4000000 in
/-- blind() of the class -/
theorem cr_blind {G : QW} {m : AM} {k : Int} (h : QR m) (h4 : K4 m) (h6 : K6 m) (hk1 : -2147483648 ≤ k) (hk2 : k < 2147483648) : qM G mX11_blind 7 0 0 [vR 0, vI k] m (fun r N2 => ((0 ≤ k ∧ k ≤ 1) → CU m N2 ∧ QR N2 ∧ r = some (vI (ouI m (soB m k) 12))) ∧ (¬ (0 ≤ k ∧ k ≤ 1) → r = some (vI (-1)) ∧ N2 = m)) := by
  have hS := h.s
  have hI := h.i
  have h70 := hI.s 86 70 0 20 (by decide)
  refine qM.intro okX11_blind (Nat.le_of_ble_eq_true rfl) ?_
  refine j_iload_n rfl rfl ?_
  refine j_callS (As := [_]) rfl okX11_isMachine c_X11_229 (ct_X11_isMachine (by omega) (by omega)) rfl rfl (Nat.le_of_ble_eq_true rfl) (by decide) (by decide) ?_
  rintro vq mq ⟨e1, e2⟩
  rw [e1, e2]
  clear e1 e2
  simp only [Option.toList_some, Option.toList_none, List.cons_append, List.nil_append]
  refine j_bif_ne (tgt := 9) rfl (by decide) (fun hb4_1 => ?_) (fun hb4_1 => ?_)
  · skip
    refine j_iconst rfl ?_
    refine j_istore_n rfl (by decide) ?_
    refine j_iconst rfl ?_
    refine j_istore_n rfl (by decide) ?_
    refine j_loc (ls' := [(0, vR 0), (1, vI k), (2, vI 0), (3, vI 0)]) rfl ?_
    refine lp_blindC h h4 h6 hb4_1 (fun N hC hQ2 => ?_) (mi m 86 70).toNat 0 m (CU.rf m) h (by omega) (by decide)
    have hS := hQ2.s
    refine j_aload_n rfl rfl ?_
    refine j_getR (q := 6) rfl f_X11_37 rfl (hS.lt (by decide)) (hS.k (by decide) (by decide)) (hS.r (by decide)) ?_
    refine j_iload_n rfl rfl ?_
    refine j_callV (ci := 4) rfl okX4_whoIsBlind c_X11_353 (ct_whoIsBlind hS hQ2.i (orL_rng _ _)) rfl rfl (hS.lt (by decide)) (hS.k (by decide) (by decide)) (by decide) rfl (Nat.le_of_ble_eq_true rfl) (by decide) (by decide) ?_
    rintro vq mq ⟨e1, e2⟩
    rw [e1, e2]
    clear e1 e2
    simp only [Option.toList_some, Option.toList_none, List.cons_append, List.nil_append]
    refine j_iret rfl rfl ?_ rfl (Nat.le_refl _)
    exact ⟨fun _ => ⟨hC, hQ2, by rw [ouI_cg (m := m) (hC.1.lemK (by omega)) (funext (fun j => hC.1.lemK (by omega))) (funext (fun j => hC.1.lemK (by omega)))]; rfl⟩, fun z => absurd hb4_1 z⟩
  · skip
    refine j_iconst rfl ?_
    refine j_iret rfl rfl ?_ rfl (Nat.le_refl _)
    exact ⟨fun z => by exfalso; exact hb4_1 z, fun _ => ⟨rfl, rfl⟩⟩


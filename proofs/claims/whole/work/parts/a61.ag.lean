/-! the agreements, call by call: first those that write nothing that lasts -/
theorem AG.pure {G : QW} {mc mm : MD} {d d2 : Nat} {as : List Vl} {m : AM} (h : Inv m) {v w : Vl} (c : qM G mc d 0 0 (vR 0 :: as) m (fun r m' => r = some v ∧ m' = m)) (k : qM G mm d2 0 0 (vR 86 :: as) m (fun r m' => r = some w ∧ m' = m)) (e : v = w) (ht : v.1 = tgr mc.r := by rfl) : AG G mc mm d d2 0 0 as m :=
  c.mono (fun r1 m1 q => by
    obtain ⟨rfl, rfl⟩ := q
    exact ⟨v, rfl, ht, h.s, k.mono (fun r2 m2 p => by
      obtain ⟨rfl, rfl⟩ := p
      exact ⟨by rw [e], h⟩)⟩)
/-- both sides store what their functions say -/
theorem AG.fn {G : QW} {mc mm : MD} {d d2 : Nat} {as : List Vl} {m : AM} {f : Int × AM} {g : AM → Int × AM} (c : qM G mc d 0 0 (vR 0 :: as) m (fun r m' => r = some (vI f.1) ∧ m' = f.2)) (k : qM G mm d2 0 0 (vR 86 :: as) f.2 (fun r m' => r = some (vI (g f.2).1) ∧ m' = (g f.2).2)) (e : f.1 = (g f.2).1) (h : Inv (g f.2).2) (hs : St f.2) (ht : 0 = tgr mc.r := by rfl) : AG G mc mm d d2 0 0 as m :=
  c.mono (fun r1 m1 q => by
    obtain ⟨rfl, rfl⟩ := q
    exact ⟨_, rfl, ht, hs, k.mono (fun r2 m2 p => by
      obtain ⟨rfl, rfl⟩ := p
      exact ⟨by rw [e], h⟩)⟩)
/-- the class leaves what its scrap is, the reference too -/
theorem AG.cu {G : QW} {mc mm : MD} {d d2 : Nat} {as : List Vl} {m : AM} {R : Option Vl → AM → Prop} {v : Vl} {K : AM → Option Vl → AM → Prop} (c : qM G mc d 0 0 (vR 0 :: as) m R) (hR : ∀ r N, R r N → r = some v ∧ Inv N ∧ qM G mm d2 0 0 (vR 86 :: as) N (K N) ∧ ∀ r2 N2, K N r2 N2 → r2 = some v ∧ Inv N2) (ht : v.1 = tgr mc.r := by rfl) : AG G mc mm d d2 0 0 as m :=
  c.mono (fun r1 m1 q => by
    obtain ⟨e, i, k, f⟩ := hR r1 m1 q
    exact ⟨v, e, ht, i.s, k.mono f⟩)
theorem saw_eq {m : AM} (h : Inv m) (p o : Int) : FX11_saw m p o = sawR m p o := by
  have e : mi m 6 5 = mi m 86 70 := h.k6.1
  have h70 := h.i.s 86 70 0 20 (by decide)
  unfold FX11_saw sawR
  rw [e]
  by_cases c1 : 0 ≤ p ∧ p < mi m 86 70
  · by_cases c2 : 0 ≤ o ∧ o < mi m 86 70
    · rw [if_pos c1, if_pos c2, if_pos ⟨c1, c2⟩]
      exact wsC_eq h.1 h.k6 (by omega) (by omega) 12 (by decide)
    · rw [if_pos c1, if_neg c2, if_neg (fun q => c2 q.2)]
  · rw [if_neg c1, if_neg (fun q => c1 q.1)]
theorem refusal_shG {m : AM} {s i : Int} (h : FX11_refusalOf m s i = 0) : 0 ≤ s ∧ s ≤ 5 := refusal_sh (m := m) (i := i) (by omega)

set_option maxRecDepth 20000 in
set_option maxHeartbeats 4000000 in
theorem cg_put {G : QW} {m : AM} (hS : St m) (hI : IM m) {sh : Int} {i : Int} {v : Int} (hsh1 : -2147483648 ≤ sh) (hsh2 : sh < 2147483648) (hi1 : -2147483648 ≤ i) (hi2 : i < 2147483648) (hv1 : -9223372036854775808 ≤ v) (hv2 : v < 9223372036854775808) (hlen0 : 0 ≤ sh ∧ sh ≤ 5 → mi m (68 + 3 * sh.toNat) 4 ≤ 60) : qM G mX11_put 2 0 0 [vR 0, vI sh, vI i, vL v] m (fun r m' => r = some (vI (FX11_put m sh i v).1) ∧ m' = (FX11_put m sh i v).2) := by
  refine qM.intro okX11_put (Nat.le_of_ble_eq_true rfl) ?_
  refine j_aload_n rfl rfl ?_
  refine j_iload_n rfl rfl ?_
  refine j_iload_n rfl rfl ?_
  refine j_callV (ci := 11) rfl okX11_refusalOf c_X11_378 (ct_X11_refusalOf hS hI (by omega) (by omega) (by omega) (by omega)) rfl rfl (hS.lt (by decide)) (hS.k (by decide) (by decide)) (by decide) rfl (Nat.le_of_ble_eq_true rfl) (by decide) (by decide) ?_
  rintro vq mq ⟨e1, e2⟩
  rw [e1, e2]
  clear e1 e2
  simp only [Option.toList_some, Option.toList_none, List.cons_append, List.nil_append]
  have hrr := FX11_refusal_rng m sh i
  refine j_istore rfl (by decide) ?_
  refine j_iload rfl rfl ?_
  refine j_if_eq (tgt := 16) rfl (by decide) (by omega) (by omega) (fun hb10_1 => ?_) (fun hb10_1 => ?_)
  · skip
    have hlen := hlen0 (refusal_shG (m := m) (s := sh) (i := i) (by omega))
    have hok := refusal_ok (m := m) (s := sh) (i := i) hlen (by omega)
    obtain ⟨hok1, hok2⟩ := hok
    refine j_aload_n rfl rfl ?_
    refine j_getR (q := 5) rfl f_X11_30 rfl (hS.lt (by decide)) (hS.k (by decide) (by decide)) (hS.r (by decide)) ?_
    refine j_iload_n rfl rfl ?_
    have hq1 := hS.sh sh (by omega) (by omega)
    refine j_aald (k := 19) (n := 6) (v := (68 + 3 * sh.toNat)) rfl (hS.lt (by decide)) (hS.k (by decide) (by decide)) el19 (hS.n (by decide) (by decide)) (by omega) (by omega) (by decide) hq1.1 ?_
    refine j_iload_n rfl rfl ?_
    refine j_lload_n rfl rfl ?_
    refine j_callV (ci := 7) rfl okX7_set c_X11_381 (ct_X7_set (by omega) (by omega) hq1.2 (by omega) hv1 hv2) rfl rfl hq1.2.1 hq1.2.2.1 (by decide) rfl (Nat.le_of_ble_eq_true rfl) (by decide) (by decide) ?_
    rintro vq mq ⟨e1, e2⟩
    rw [e1, e2]
    clear e1 e2
    simp only [Option.toList_some, Option.toList_none, List.cons_append, List.nil_append]
    refine j_iconst rfl ?_
    refine j_iret rfl rfl ?_ rfl (Nat.le_refl _)
    unfold FX11_put
    rw [if_pos hb10_1]
    exact ⟨rfl, rfl⟩
  · skip
    refine j_iload rfl rfl ?_
    refine j_iret rfl rfl ?_ rfl (Nat.le_refl _)
    unfold FX11_put
    rw [if_neg hb10_1]
    exact ⟨rfl, rfl⟩

set_option maxRecDepth 20000 in
set_option maxHeartbeats 4000000 in
theorem cg_element {G : QW} {m : AM} (hS : St m) (hI : IM m) {sh : Int} {i : Int} (hsh1 : -2147483648 ≤ sh) (hsh2 : sh < 2147483648) (hi1 : -2147483648 ≤ i) (hi2 : i < 2147483648) (hlen0 : 0 ≤ sh ∧ sh ≤ 5 → mi m (68 + 3 * sh.toNat) 4 ≤ 60) : qM G mX11_element 2 0 0 [vR 0, vI sh, vI i] m (fun r m' => r = some (vL (FX11_element m sh i)) ∧ m' = m) := by
  refine qM.intro okX11_element (Nat.le_of_ble_eq_true rfl) ?_
  refine j_aload_n rfl rfl ?_
  refine j_iload_n rfl rfl ?_
  refine j_iload_n rfl rfl ?_
  refine j_callV (ci := 11) rfl okX11_refusalOf c_X11_378 (ct_X11_refusalOf hS hI (by omega) (by omega) (by omega) (by omega)) rfl rfl (hS.lt (by decide)) (hS.k (by decide) (by decide)) (by decide) rfl (Nat.le_of_ble_eq_true rfl) (by decide) (by decide) ?_
  rintro vq mq ⟨e1, e2⟩
  rw [e1, e2]
  clear e1 e2
  simp only [Option.toList_some, Option.toList_none, List.cons_append, List.nil_append]
  have hrr := FX11_refusal_rng m sh i
  refine j_if_ne (tgt := 22) rfl (by decide) (by omega) (by omega) (fun hb6_1 => ?_) (fun hb6_1 => ?_)
  · skip
    refine j_ldc2 (v := -9223372036854775808) rfl k_X11_393 ?_
    refine j_lret rfl rfl ?_ rfl (Nat.le_refl _)
    unfold FX11_element
    rw [if_pos hb6_1]
    exact ⟨rfl, rfl⟩
  · skip
    have hlen := hlen0 (refusal_shG (m := m) (s := sh) (i := i) (by omega))
    have hok := refusal_ok (m := m) (s := sh) (i := i) hlen (by omega)
    obtain ⟨hok1, hok2⟩ := hok
    refine j_aload_n rfl rfl ?_
    refine j_getR (q := 5) rfl f_X11_30 rfl (hS.lt (by decide)) (hS.k (by decide) (by decide)) (hS.r (by decide)) ?_
    refine j_iload_n rfl rfl ?_
    have hq1 := hS.sh sh (by omega) (by omega)
    refine j_aald (k := 19) (n := 6) (v := (68 + 3 * sh.toNat)) rfl (hS.lt (by decide)) (hS.k (by decide) (by decide)) el19 (hS.n (by decide) (by decide)) (by omega) (by omega) (by decide) hq1.1 ?_
    refine j_iload_n rfl rfl ?_
    refine j_callV (ci := 7) rfl okX7_wholeAt c_X11_388 (ct_X7_wholeAt (by omega) (by omega) hq1.2 (by omega) (by omega)) rfl rfl hq1.2.1 hq1.2.2.1 (by decide) rfl (Nat.le_of_ble_eq_true rfl) (by decide) (by decide) ?_
    rintro vq mq ⟨e1, e2⟩
    rw [e1, e2]
    clear e1 e2
    simp only [Option.toList_some, Option.toList_none, List.cons_append, List.nil_append]
    refine j_goto (tgt := 25) rfl (by decide) ?_
    refine j_lret rfl rfl ?_ rfl (Nat.le_refl _)
    unfold FX11_element
    rw [if_neg (not_not_intro hb6_1)]
    exact ⟨rfl, rfl⟩

set_option maxRecDepth 20000 in
set_option maxHeartbeats 4000000 in
theorem cg_noNumber {G : QW} {m : AM} (hS : St m) (hI : IM m) {sh : Int} {i : Int} (hsh1 : -2147483648 ≤ sh) (hsh2 : sh < 2147483648) (hi1 : -2147483648 ≤ i) (hi2 : i < 2147483648) (hlen0 : 0 ≤ sh ∧ sh ≤ 5 → mi m (68 + 3 * sh.toNat) 4 ≤ 60) : qM G mX11_noNumber 2 0 0 [vR 0, vI sh, vI i] m (fun r m' => r = some (vI (FX11_noNumber m sh i).1) ∧ m' = (FX11_noNumber m sh i).2) := by
  refine qM.intro okX11_noNumber (Nat.le_of_ble_eq_true rfl) ?_
  refine j_aload_n rfl rfl ?_
  refine j_iload_n rfl rfl ?_
  refine j_iload_n rfl rfl ?_
  refine j_callV (ci := 11) rfl okX11_refusalOf c_X11_378 (ct_X11_refusalOf hS hI (by omega) (by omega) (by omega) (by omega)) rfl rfl (hS.lt (by decide)) (hS.k (by decide) (by decide)) (by decide) rfl (Nat.le_of_ble_eq_true rfl) (by decide) (by decide) ?_
  rintro vq mq ⟨e1, e2⟩
  rw [e1, e2]
  clear e1 e2
  simp only [Option.toList_some, Option.toList_none, List.cons_append, List.nil_append]
  have hrr := FX11_refusal_rng m sh i
  have hs0 : FX11_refusalOf m sh i ≠ -1 → 0 ≤ sh ∧ sh ≤ 5 := refusal_sh
  refine j_istore_n rfl (by decide) ?_
  refine j_iload_n rfl rfl ?_
  refine j_iconst rfl ?_
  refine j_icmp_eq (tgt := 18) rfl (by decide) (by omega) (by omega) (by omega) (by omega) (fun hb9_1 => ?_) (fun hb9_1 => ?_)
  · skip
    refine j_iload_n rfl rfl ?_
    refine j_iret rfl rfl ?_ rfl (Nat.le_refl _)
    unfold FX11_noNumber
    rw [if_pos hb9_1]
    exact ⟨rfl, rfl⟩
  · skip
    refine j_iload_n rfl rfl ?_
    refine j_bipush rfl (by decide) ?_
    refine j_icmp_ne (tgt := 20) rfl (by decide) (by omega) (by omega) (by omega) (by omega) (fun hb15_1 => ?_) (fun hb15_1 => ?_)
    · skip
      have hs5 := hs0 (by omega)
      refine j_aload_n rfl rfl ?_
      refine j_getR (q := 5) rfl f_X11_30 rfl (hS.lt (by decide)) (hS.k (by decide) (by decide)) (hS.r (by decide)) ?_
      refine j_iload_n rfl rfl ?_
      have hq1 := hS.sh sh (by omega) (by omega)
      refine j_aald (k := 19) (n := 6) (v := (68 + 3 * sh.toNat)) rfl (hS.lt (by decide)) (hS.k (by decide) (by decide)) el19 (hS.n (by decide) (by decide)) (by omega) (by omega) (by decide) hq1.1 ?_
      refine j_callV (ci := 7) rfl okX7_holdsReals c_X11_177 (ct_X7_holdsReals hq1.2) rfl rfl hq1.2.1 hq1.2.2.1 (by decide) rfl (Nat.le_of_ble_eq_true rfl) (by decide) (by decide) ?_
      rintro vq mq ⟨e1, e2⟩
      rw [e1, e2]
      clear e1 e2
      simp only [Option.toList_some, Option.toList_none, List.cons_append, List.nil_append]
      refine j_bif_ne (tgt := 35) rfl (by decide) (fun hb29_1 => ?_) (fun hb29_1 => ?_)
      · skip
        refine j_iload_n rfl rfl ?_
        refine j_if_eq (tgt := 41) rfl (by decide) (by omega) (by omega) (fun hb36_1 => ?_) (fun hb36_1 => ?_)
        · skip
          have hlen := hlen0 (refusal_shG (m := m) (s := sh) (i := i) (by omega))
          have hok := refusal_ok (m := m) (s := sh) (i := i) hlen (by omega)
          obtain ⟨hok1, hok2⟩ := hok
          refine j_aload_n rfl rfl ?_
          refine j_getR (q := 5) rfl f_X11_30 rfl (hS.lt (by decide)) (hS.k (by decide) (by decide)) (hS.r (by decide)) ?_
          refine j_iload_n rfl rfl ?_
          have hq2 := hS.sh sh (by omega) (by omega)
          refine j_aald (k := 19) (n := 6) (v := (68 + 3 * sh.toNat)) rfl (hS.lt (by decide)) (hS.k (by decide) (by decide)) el19 (hS.n (by decide) (by decide)) (by omega) (by omega) (by decide) hq2.1 ?_
          refine j_iload_n rfl rfl ?_
          refine j_callV (ci := 7) rfl okX7_setLacking c_X11_385 (ct_X7_setLacking (by omega) (by omega) hq2.2 (by omega) (by omega)) rfl rfl hq2.2.1 hq2.2.2.1 (by decide) rfl (Nat.le_of_ble_eq_true rfl) (by decide) (by decide) ?_
          rintro vq mq ⟨e1, e2⟩
          rw [e1, e2]
          clear e1 e2
          simp only [Option.toList_some, Option.toList_none, List.cons_append, List.nil_append]
          refine j_iconst rfl ?_
          refine j_iret rfl rfl ?_ rfl (Nat.le_refl _)
          unfold FX11_noNumber
          rw [if_neg hb9_1, if_pos hb15_1, if_pos hb29_1, if_pos hb36_1]
          exact ⟨rfl, rfl⟩
        · skip
          refine j_iload_n rfl rfl ?_
          refine j_iret rfl rfl ?_ rfl (Nat.le_refl _)
          unfold FX11_noNumber
          rw [if_neg hb9_1, if_pos hb15_1, if_pos hb29_1, if_neg hb36_1]
          exact ⟨rfl, rfl⟩
      · skip
        refine j_bipush rfl (by decide) ?_
        refine j_iret rfl rfl ?_ rfl (Nat.le_refl _)
        unfold FX11_noNumber
        rw [if_neg hb9_1, if_pos hb15_1, if_neg hb29_1]
        exact ⟨rfl, rfl⟩
    · skip
      refine j_iload_n rfl rfl ?_
      refine j_iret rfl rfl ?_ rfl (Nat.le_refl _)
      unfold FX11_noNumber
      rw [if_neg hb9_1, if_neg (not_not_intro hb15_1)]
      exact ⟨rfl, rfl⟩

set_option maxRecDepth 20000 in
set_option maxHeartbeats 4000000 in
theorem cg_shift {G : QW} {m : AM} (hS : St m) (hI : IM m) {s1 : Int} {i : Int} {s2 : Int} {j : Int} {n : Int} (hs11 : -2147483648 ≤ s1) (hs12 : s1 < 2147483648) (hi1 : -2147483648 ≤ i) (hi2 : i < 2147483648) (hs21 : -2147483648 ≤ s2) (hs22 : s2 < 2147483648) (hj1 : -2147483648 ≤ j) (hj2 : j < 2147483648) (hn1 : -2147483648 ≤ n) (hn2 : n < 2147483648) (hl10 : 0 ≤ s1 ∧ s1 ≤ 5 → (0 ≤ mi m (68 + 3 * s1.toNat) 4 ∧ mi m (68 + 3 * s1.toNat) 4 ≤ 60)) (hl20 : 0 ≤ s2 ∧ s2 ≤ 5 → (0 ≤ mi m (68 + 3 * s2.toNat) 4 ∧ mi m (68 + 3 * s2.toNat) 4 ≤ 60)) (h010 : 0 ≤ s1 ∧ s1 ≤ 5 → (∀ k, mi m ((68 + 3 * s1.toNat) + 2) k = 0 ∨ mi m ((68 + 3 * s1.toNat) + 2) k = 1)) : qM G mX11_shift 2 0 0 [vR 0, vI s1, vI i, vI s2, vI j, vI n] m (fun r m' => r = some (vI (FX11_shift m s1 i s2 j n).1) ∧ m' = (FX11_shift m s1 i s2 j n).2) := by
  refine qM.intro okX11_shift (Nat.le_of_ble_eq_true rfl) ?_
  refine j_iload_n rfl rfl ?_
  refine j_callS (As := [_]) rfl okX11_isShelf c_X11_369 (ct_X11_isShelf (by omega) (by omega)) rfl rfl (Nat.le_of_ble_eq_true rfl) (by decide) (by decide) ?_
  rintro vq mq ⟨e1, e2⟩
  rw [e1, e2]
  clear e1 e2
  simp only [Option.toList_some, Option.toList_none, List.cons_append, List.nil_append]
  refine j_bif_eq (tgt := 14) rfl (by decide) (fun hb4_1 => ?_) (fun hb4_1 => ?_)
  · skip
    refine j_iconst rfl ?_
    refine j_iret rfl rfl ?_ rfl (Nat.le_refl _)
    unfold FX11_shift
    rw [if_neg hb4_1]
    exact ⟨rfl, rfl⟩
  · skip
    refine j_iload_n rfl rfl ?_
    refine j_callS (As := [_]) rfl okX11_isShelf c_X11_369 (ct_X11_isShelf (by omega) (by omega)) rfl rfl (Nat.le_of_ble_eq_true rfl) (by decide) (by decide) ?_
    rintro vq mq ⟨e1, e2⟩
    rw [e1, e2]
    clear e1 e2
    simp only [Option.toList_some, Option.toList_none, List.cons_append, List.nil_append]
    refine j_bif_ne (tgt := 16) rfl (by decide) (fun hb11_1 => ?_) (fun hb11_1 => ?_)
    · skip
      refine j_aload_n rfl rfl ?_
      refine j_getR (q := 5) rfl f_X11_30 rfl (hS.lt (by decide)) (hS.k (by decide) (by decide)) (hS.r (by decide)) ?_
      refine j_iload_n rfl rfl ?_
      have hl1 := hl10 (by omega)
      have h01 := h010 (by omega)
      have hq1 := hS.sh s1 (by omega) (by omega)
      refine j_aald (k := 19) (n := 6) (v := (68 + 3 * s1.toNat)) rfl (hS.lt (by decide)) (hS.k (by decide) (by decide)) el19 (hS.n (by decide) (by decide)) (by omega) (by omega) (by decide) hq1.1 ?_
      refine j_astore rfl (by decide) ?_
      refine j_aload_n rfl rfl ?_
      refine j_getR (q := 5) rfl f_X11_30 rfl (hS.lt (by decide)) (hS.k (by decide) (by decide)) (hS.r (by decide)) ?_
      refine j_iload_n rfl rfl ?_
      have hl2 := hl20 (by omega)
      have hq2 := hS.sh s2 (by omega) (by omega)
      refine j_aald (k := 19) (n := 6) (v := (68 + 3 * s2.toNat)) rfl (hS.lt (by decide)) (hS.k (by decide) (by decide)) el19 (hS.n (by decide) (by decide)) (by omega) (by omega) (by decide) hq2.1 ?_
      refine j_astore rfl (by decide) ?_
      refine j_aload rfl rfl ?_
      refine j_callV (ci := 7) rfl okX7_isEmpty c_X11_173 (ct_X7_isEmpty hq1.2) rfl rfl hq1.2.1 hq1.2.2.1 (by decide) rfl (Nat.le_of_ble_eq_true rfl) (by decide) (by decide) ?_
      rintro vq mq ⟨e1, e2⟩
      rw [e1, e2]
      clear e1 e2
      simp only [Option.toList_some, Option.toList_none, List.cons_append, List.nil_append]
      refine j_bif_ne (tgt := 48) rfl (by decide) (fun hb37_1 => ?_) (fun hb37_1 => ?_)
      · skip
        refine j_bipush rfl (by decide) ?_
        refine j_iret rfl rfl ?_ rfl (Nat.le_refl _)
        unfold FX11_shift
        rw [if_pos hb4_1, if_pos hb11_1, if_pos hb37_1]
        exact ⟨rfl, rfl⟩
      · skip
        refine j_aload rfl rfl ?_
        refine j_callV (ci := 7) rfl okX7_isEmpty c_X11_173 (ct_X7_isEmpty hq2.2) rfl rfl hq2.2.1 hq2.2.2.1 (by decide) rfl (Nat.le_of_ble_eq_true rfl) (by decide) (by decide) ?_
        rintro vq mq ⟨e1, e2⟩
        rw [e1, e2]
        clear e1 e2
        simp only [Option.toList_some, Option.toList_none, List.cons_append, List.nil_append]
        refine j_bif_eq (tgt := 51) rfl (by decide) (fun hb45_1 => ?_) (fun hb45_1 => ?_)
        · skip
          refine j_aload rfl rfl ?_
          refine j_callV (ci := 7) rfl okX7_holdsRow c_X11_395 (ct_X7_holdsRow hq1.2) rfl rfl hq1.2.1 hq1.2.2.1 (by decide) rfl (Nat.le_of_ble_eq_true rfl) (by decide) (by decide) ?_
          rintro vq mq ⟨e1, e2⟩
          rw [e1, e2]
          clear e1 e2
          simp only [Option.toList_some, Option.toList_none, List.cons_append, List.nil_append]
          refine j_bif_eq (tgt := 72) rfl (by decide) (fun hb56_1 => ?_) (fun hb56_1 => ?_)
          · skip
            refine j_bipush rfl (by decide) ?_
            refine j_iret rfl rfl ?_ rfl (Nat.le_refl _)
            unfold FX11_shift
            rw [if_pos hb4_1, if_pos hb11_1, if_neg hb37_1, if_neg hb45_1, if_neg hb56_1]
            exact ⟨rfl, rfl⟩
          · skip
            refine j_aload rfl rfl ?_
            refine j_getI rfl f_X11_398 rfl hq1.2.1 hq1.2.2.1 ?_
            have u61_1 := mi_rng m (68 + 3 * s1.toNat) 3
            refine j_aload rfl rfl ?_
            refine j_getI rfl f_X11_398 rfl hq2.2.1 hq2.2.2.1 ?_
            have u66_1 := mi_rng m (68 + 3 * s2.toNat) 3
            refine j_icmp_eq (tgt := 75) rfl (by decide) (by omega) (by omega) (by omega) (by omega) (fun hb69_1 => ?_) (fun hb69_1 => ?_)
            · skip
              refine j_aload rfl rfl ?_
              refine j_iload_n rfl rfl ?_
              refine j_iload rfl rfl ?_
              refine j_callV (ci := 7) rfl okX7_hasPlaces c_X11_401 (ct_X7_hasPlaces hq1.2 (by omega) (by omega) (by omega) (by omega)) rfl rfl hq1.2.1 hq1.2.2.1 (by decide) rfl (Nat.le_of_ble_eq_true rfl) (by decide) (by decide) ?_
              rintro vq mq ⟨e1, e2⟩
              rw [e1, e2]
              clear e1 e2
              simp only [Option.toList_some, Option.toList_none, List.cons_append, List.nil_append]
              refine j_bif_eq (tgt := 98) rfl (by decide) (fun hb83_1 => ?_) (fun hb83_1 => ?_)
              · skip
                refine j_bipush rfl (by decide) ?_
                refine j_iret rfl rfl ?_ rfl (Nat.le_refl _)
                unfold FX11_shift
                rw [if_pos hb4_1, if_pos hb11_1, if_neg hb37_1, if_neg hb45_1, if_pos hb56_1, if_pos hb69_1, if_neg hb83_1]
                exact ⟨rfl, rfl⟩
              · skip
                refine j_aload rfl rfl ?_
                refine j_iload rfl rfl ?_
                refine j_iload rfl rfl ?_
                refine j_callV (ci := 7) rfl okX7_hasPlaces c_X11_401 (ct_X7_hasPlaces hq2.2 (by omega) (by omega) (by omega) (by omega)) rfl rfl hq2.2.1 hq2.2.2.1 (by decide) rfl (Nat.le_of_ble_eq_true rfl) (by decide) (by decide) ?_
                rintro vq mq ⟨e1, e2⟩
                rw [e1, e2]
                clear e1 e2
                simp only [Option.toList_some, Option.toList_none, List.cons_append, List.nil_append]
                refine j_bif_ne (tgt := 101) rfl (by decide) (fun hb95_1 => ?_) (fun hb95_1 => ?_)
                · skip
                  refine j_aload rfl rfl ?_
                  refine j_aload rfl rfl ?_
                  refine j_iload_n rfl rfl ?_
                  refine j_iload rfl rfl ?_
                  refine j_iload rfl rfl ?_
                  have hp1 := hb83_1
                  have hp2 := hb95_1
                  have cpc := ct_X7_copyFrom (G := G) (m := m) (i := i.toNat) (j := j.toNat) (n := n.toNat) hq2.2 hq1.2 (by omega) (by omega) h01
                  rw [show ((i.toNat : Nat) : Int) = i by omega, show ((j.toNat : Nat) : Int) = j by omega, show ((n.toNat : Nat) : Int) = n by omega] at cpc
                  refine j_callV (ci := 7) rfl okX7_copyFrom c_X11_404 (cpc) rfl rfl hq2.2.1 hq2.2.2.1 (by decide) rfl (Nat.le_of_ble_eq_true rfl) (by decide) (by decide) ?_
                  rintro vq mq ⟨e1, e2⟩
                  rw [e1, e2]
                  clear e1 e2
                  simp only [Option.toList_some, Option.toList_none, List.cons_append, List.nil_append]
                  refine j_iload rfl rfl ?_
                  refine j_iret rfl rfl ?_ rfl (Nat.le_refl _)
                  unfold FX11_shift
                  rw [if_pos hb4_1, if_pos hb11_1, if_neg hb37_1, if_neg hb45_1, if_pos hb56_1, if_pos hb69_1, if_pos hb83_1, if_pos hb95_1]
                  exact ⟨rfl, rfl⟩
                · skip
                  refine j_bipush rfl (by decide) ?_
                  refine j_iret rfl rfl ?_ rfl (Nat.le_refl _)
                  unfold FX11_shift
                  rw [if_pos hb4_1, if_pos hb11_1, if_neg hb37_1, if_neg hb45_1, if_pos hb56_1, if_pos hb69_1, if_pos hb83_1, if_neg hb95_1]
                  exact ⟨rfl, rfl⟩
            · skip
              refine j_bipush rfl (by decide) ?_
              refine j_iret rfl rfl ?_ rfl (Nat.le_refl _)
              unfold FX11_shift
              rw [if_pos hb4_1, if_pos hb11_1, if_neg hb37_1, if_neg hb45_1, if_pos hb56_1, if_neg hb69_1]
              exact ⟨rfl, rfl⟩
        · skip
          refine j_bipush rfl (by decide) ?_
          refine j_iret rfl rfl ?_ rfl (Nat.le_refl _)
          unfold FX11_shift
          rw [if_pos hb4_1, if_pos hb11_1, if_neg hb37_1, if_pos hb45_1]
          exact ⟨rfl, rfl⟩
    · skip
      refine j_iconst rfl ?_
      refine j_iret rfl rfl ?_ rfl (Nat.le_refl _)
      unfold FX11_shift
      rw [if_pos hb4_1, if_neg hb11_1]
      exact ⟨rfl, rfl⟩

set_option maxRecDepth 20000 in
set_option maxHeartbeats 4000000 in
theorem cg_feltRow {G : QW} {m : AM} (hS : St m) (hI : IM m) {fk : Int} {sh : Int} {i : Int} (hfk1 : -2147483648 ≤ fk) (hfk2 : fk < 2147483648) (hsh1 : -2147483648 ≤ sh) (hsh2 : sh < 2147483648) (hi1 : -2147483648 ≤ i) (hi2 : i < 2147483648) (hFl : HF m) (hl0 : 0 ≤ sh ∧ sh ≤ 5 → (0 ≤ mi m (68 + 3 * sh.toNat) 4 ∧ mi m (68 + 3 * sh.toNat) 4 ≤ 60)) : qM G mX11_feltRow 3 0 0 [vR 0, vI fk, vI sh, vI i] m (fun r m' => r = some (vI (FX11_feltRow m fk sh i).1) ∧ m' = (FX11_feltRow m fk sh i).2) := by
  refine qM.intro okX11_feltRow (Nat.le_of_ble_eq_true rfl) ?_
  refine j_aload_n rfl rfl ?_
  refine j_iload_n rfl rfl ?_
  refine j_callV (ci := 11) rfl okX11_isFelt c_X11_159 (ct_X11_isFelt hS hI (by omega) (by omega)) rfl rfl (hS.lt (by decide)) (hS.k (by decide) (by decide)) (by decide) rfl (Nat.le_of_ble_eq_true rfl) (by decide) (by decide) ?_
  rintro vq mq ⟨e1, e2⟩
  rw [e1, e2]
  clear e1 e2
  simp only [Option.toList_some, Option.toList_none, List.cons_append, List.nil_append]
  have w1 := hI.s 0 17 (0) 8 (by decide)
  refine j_bif_eq (tgt := 19) rfl (by decide) (fun hb5_1 => ?_) (fun hb5_1 => ?_)
  · skip
    refine j_iconst rfl ?_
    refine j_iret rfl rfl ?_ rfl (Nat.le_refl _)
    unfold FX11_feltRow
    rw [if_neg hb5_1]
    exact ⟨rfl, rfl⟩
  · skip
    refine j_iload_n rfl rfl ?_
    refine j_iconst rfl ?_
    refine j_icmp_lt (tgt := 19) rfl (by decide) (by omega) (by omega) (by omega) (by omega) (fun hb10_1 => ?_) (fun hb10_1 => ?_)
    · skip
      refine j_iconst rfl ?_
      refine j_iret rfl rfl ?_ rfl (Nat.le_refl _)
      unfold FX11_feltRow
      rw [if_pos hb5_1, if_pos hb10_1]
      exact ⟨rfl, rfl⟩
    · skip
      refine j_iload_n rfl rfl ?_
      refine j_bipush rfl (by decide) ?_
      refine j_icmp_lt (tgt := 21) rfl (by decide) (by omega) (by omega) (by omega) (by omega) (fun hb16_1 => ?_) (fun hb16_1 => ?_)
      · skip
        refine j_aload_n rfl rfl ?_
        refine j_getR (q := 4) rfl f_X11_24 rfl (hS.lt (by decide)) (hS.k (by decide) (by decide)) (hS.r (by decide)) ?_
        refine j_iload_n rfl rfl ?_
        refine j_bipush rfl (by decide) ?_
        refine j_idivN rfl (by omega) (by omega) (by omega) (by omega) ?_
        have hq1 := hFl (fk / 10) (by omega) (by omega)
        refine j_aald (k := 18) (n := 8) (v := (fl m (fk / 10))) rfl (hS.lt (by decide)) (hS.k (by decide) (by decide)) el18 (hS.n (by decide) (by decide)) (by omega) (by omega) (by decide) hq1.1 ?_
        refine j_astore rfl (by decide) ?_
        refine j_iload_n rfl rfl ?_
        refine j_iconst rfl ?_
        refine j_icmp_ne (tgt := 48) rfl (by decide) (by omega) (by omega) (by omega) (by omega) (fun hb34_1 => ?_) (fun hb34_1 => ?_)
        · skip
          refine j_aload_n rfl rfl ?_
          refine j_getR (q := 5) rfl f_X11_30 rfl (hS.lt (by decide)) (hS.k (by decide) (by decide)) (hS.r (by decide)) ?_
          refine j_iload_n rfl rfl ?_
          have hl := hl0 (by omega)
          have hq2 := hS.sh sh (by omega) (by omega)
          refine j_aald (k := 19) (n := 6) (v := (68 + 3 * sh.toNat)) rfl (hS.lt (by decide)) (hS.k (by decide) (by decide)) el19 (hS.n (by decide) (by decide)) (by omega) (by omega) (by decide) hq2.1 ?_
          refine j_astore rfl (by decide) ?_
          refine j_aload rfl rfl ?_
          refine j_callV (ci := 7) rfl okX7_isEmpty c_X11_173 (ct_X7_isEmpty hq2.2) rfl rfl hq2.2.1 hq2.2.2.1 (by decide) rfl (Nat.le_of_ble_eq_true rfl) (by decide) (by decide) ?_
          rintro vq mq ⟨e1, e2⟩
          rw [e1, e2]
          clear e1 e2
          simp only [Option.toList_some, Option.toList_none, List.cons_append, List.nil_append]
          refine j_bif_ne (tgt := 75) rfl (by decide) (fun hb61_1 => ?_) (fun hb61_1 => ?_)
          · skip
            refine j_aload rfl rfl ?_
            refine j_iload_n rfl rfl ?_
            refine j_bipush rfl (by decide) ?_
            refine j_iremN rfl (by omega) (by omega) (by omega) (by omega) ?_
            refine j_aload rfl rfl ?_
            refine j_iload_n rfl rfl ?_
            refine j_callV (ci := 3) rfl okX3_takeRow c_X11_180 (ct_takeRow hq1.2.1 hq2.2 (by omega) (by have q := hq1.2.2 (fk % 10).toNat (by omega); exact q) (by omega) (by omega) hl) rfl rfl hq1.2.1.1 hq1.2.1.2.1 (by decide) rfl (Nat.le_of_ble_eq_true rfl) (by decide) (by decide) ?_
            rintro vq mq ⟨e1, e2⟩
            rw [e1, e2]
            clear e1 e2
            simp only [Option.toList_some, Option.toList_none, List.cons_append, List.nil_append]
            refine j_iret rfl rfl ?_ rfl (Nat.le_refl _)
            unfold FX11_feltRow
            rw [if_pos hb5_1, if_neg hb10_1, if_pos hb16_1, if_pos hb34_1, if_pos hb61_1]
            exact ⟨rfl, rfl⟩
          · skip
            refine j_aload rfl rfl ?_
            refine j_callV (ci := 7) rfl okX7_holdsReals c_X11_177 (ct_X7_holdsReals hq2.2) rfl rfl hq2.2.1 hq2.2.2.1 (by decide) rfl (Nat.le_of_ble_eq_true rfl) (by decide) (by decide) ?_
            rintro vq mq ⟨e1, e2⟩
            rw [e1, e2]
            clear e1 e2
            simp only [Option.toList_some, Option.toList_none, List.cons_append, List.nil_append]
            refine j_bif_ne (tgt := 75) rfl (by decide) (fun hb69_1 => ?_) (fun hb69_1 => ?_)
            · skip
              refine j_aload rfl rfl ?_
              refine j_iload_n rfl rfl ?_
              refine j_bipush rfl (by decide) ?_
              refine j_iremN rfl (by omega) (by omega) (by omega) (by omega) ?_
              refine j_aload rfl rfl ?_
              refine j_iload_n rfl rfl ?_
              refine j_callV (ci := 3) rfl okX3_takeRow c_X11_180 (ct_takeRow hq1.2.1 hq2.2 (by omega) (by have q := hq1.2.2 (fk % 10).toNat (by omega); exact q) (by omega) (by omega) hl) rfl rfl hq1.2.1.1 hq1.2.1.2.1 (by decide) rfl (Nat.le_of_ble_eq_true rfl) (by decide) (by decide) ?_
              rintro vq mq ⟨e1, e2⟩
              rw [e1, e2]
              clear e1 e2
              simp only [Option.toList_some, Option.toList_none, List.cons_append, List.nil_append]
              refine j_iret rfl rfl ?_ rfl (Nat.le_refl _)
              unfold FX11_feltRow
              rw [if_pos hb5_1, if_neg hb10_1, if_pos hb16_1, if_pos hb34_1, if_neg hb61_1, if_pos hb69_1]
              exact ⟨rfl, rfl⟩
            · skip
              refine j_bipush rfl (by decide) ?_
              refine j_iret rfl rfl ?_ rfl (Nat.le_refl _)
              unfold FX11_feltRow
              rw [if_pos hb5_1, if_neg hb10_1, if_pos hb16_1, if_pos hb34_1, if_neg hb61_1, if_neg hb69_1]
              exact ⟨rfl, rfl⟩
        · skip
          refine j_aload rfl rfl ?_
          refine j_iload_n rfl rfl ?_
          refine j_bipush rfl (by decide) ?_
          refine j_iremN rfl (by omega) (by omega) (by omega) (by omega) ?_
          refine j_callV (ci := 3) rfl okX3_leaveRow c_X11_170 (ct_X3_leaveRow (by omega) (by omega) hq1.2.1 (by omega) (by omega)) rfl rfl hq1.2.1.1 hq1.2.1.2.1 (by decide) rfl (Nat.le_of_ble_eq_true rfl) (by decide) (by decide) ?_
          rintro vq mq ⟨e1, e2⟩
          rw [e1, e2]
          clear e1 e2
          simp only [Option.toList_some, Option.toList_none, List.cons_append, List.nil_append]
          refine j_iconst rfl ?_
          refine j_iret rfl rfl ?_ rfl (Nat.le_refl _)
          unfold FX11_feltRow
          rw [if_pos hb5_1, if_neg hb10_1, if_pos hb16_1, if_neg (not_not_intro hb34_1)]
          exact ⟨rfl, rfl⟩
      · skip
        refine j_iconst rfl ?_
        refine j_iret rfl rfl ?_ rfl (Nat.le_refl _)
        unfold FX11_feltRow
        rw [if_pos hb5_1, if_neg hb10_1, if_neg hb16_1]
        exact ⟨rfl, rfl⟩

set_option maxRecDepth 20000 in
set_option maxHeartbeats 4000000 in
theorem cg_feels {G : QW} {m : AM} (hS : St m) (hI : IM m) {k : Int} {t : Int} (hk1 : -2147483648 ≤ k) (hk2 : k < 2147483648) (ht1 : -2147483648 ≤ t) (ht2 : t < 2147483648) (hFl : HF m) (h5 : (0 ≤ k ∧ (0 ≤ k / 10 ∧ k / 10 < mi m 0 17) ∧ k % 10 ≤ 2) ∧ 0 ≤ t ∧ t ≤ 199 → (mi m ((fl m (k / 10)) + 4) (k % 10).toNat ≤ 60) ∧ (0 ≤ mi m ((fl m (k / 10)) + 3) (k % 10).toNat) ∧ -2147483648 ≤ mi m ((fl m (k / 10)) + 1) (k % 10).toNat + t * (mi m ((fl m (k / 10)) + 2) (k % 10).toNat) ∧ mi m ((fl m (k / 10)) + 1) (k % 10).toNat + t * (mi m ((fl m (k / 10)) + 2) (k % 10).toNat) < 2147483648) : qM G mX11_feels 2 0 0 [vR 0, vI k, vI t] m (fun r m' => r = some (vI (FX11_feels m k t)) ∧ m' = m) := by
  refine qM.intro okX11_feels (Nat.le_of_ble_eq_true rfl) ?_
  refine j_aload_n rfl rfl ?_
  refine j_iload_n rfl rfl ?_
  refine j_callV (ci := 11) rfl okX11_isFelt c_X11_159 (ct_X11_isFelt hS hI (by omega) (by omega)) rfl rfl (hS.lt (by decide)) (hS.k (by decide) (by decide)) (by decide) rfl (Nat.le_of_ble_eq_true rfl) (by decide) (by decide) ?_
  rintro vq mq ⟨e1, e2⟩
  rw [e1, e2]
  clear e1 e2
  simp only [Option.toList_some, Option.toList_none, List.cons_append, List.nil_append]
  have w1 := hI.s 0 17 (0) 8 (by decide)
  refine j_bif_eq (tgt := 35) rfl (by decide) (fun hb5_1 => ?_) (fun hb5_1 => ?_)
  · skip
    refine j_ldc (v := -2000000000) rfl k_X11_136 ?_
    refine j_iret rfl rfl ?_ rfl (Nat.le_refl _)
    unfold FX11_feels
    rw [if_neg hb5_1]
    exact ⟨rfl, rfl⟩
  · skip
    refine j_iload_n rfl rfl ?_
    refine j_callS (As := [_]) rfl okX11_isTick c_X11_184 (ct_X11_isTick (by omega) (by omega)) rfl rfl (Nat.le_of_ble_eq_true rfl) (by decide) (by decide) ?_
    rintro vq mq ⟨e1, e2⟩
    rw [e1, e2]
    clear e1 e2
    simp only [Option.toList_some, Option.toList_none, List.cons_append, List.nil_append]
    refine j_bif_eq (tgt := 35) rfl (by decide) (fun hb12_1 => ?_) (fun hb12_1 => ?_)
    · skip
      refine j_ldc (v := -2000000000) rfl k_X11_136 ?_
      refine j_iret rfl rfl ?_ rfl (Nat.le_refl _)
      unfold FX11_feels
      rw [if_pos hb5_1, if_neg hb12_1]
      exact ⟨rfl, rfl⟩
    · skip
      refine j_aload_n rfl rfl ?_
      refine j_getR (q := 4) rfl f_X11_24 rfl (hS.lt (by decide)) (hS.k (by decide) (by decide)) (hS.r (by decide)) ?_
      refine j_iload_n rfl rfl ?_
      refine j_bipush rfl (by decide) ?_
      refine j_idivN rfl (by omega) (by omega) (by omega) (by omega) ?_
      obtain ⟨hn5, hc5, hv5⟩ := h5 ⟨hb5_1, hb12_1⟩
      have hq1 := hFl (k / 10) (by omega) (by omega)
      refine j_aald (k := 18) (n := 8) (v := (fl m (k / 10))) rfl (hS.lt (by decide)) (hS.k (by decide) (by decide)) el18 (hS.n (by decide) (by decide)) (by omega) (by omega) (by decide) hq1.1 ?_
      refine j_iload_n rfl rfl ?_
      refine j_bipush rfl (by decide) ?_
      refine j_iremN rfl (by omega) (by omega) (by omega) (by omega) ?_
      refine j_iload_n rfl rfl ?_
      refine j_callV (ci := 3) rfl okX3_feltAt c_X11_187 (ct_X3_feltAt hq1.2.1 (by have q := hq1.2.2 (k % 10).toNat (by omega); rw [show (fl m (k / 10)) + 5 = (fl m (k / 10)) + 5 from rfl]; exact q) (by omega) (by omega) hn5 hc5 hv5) rfl rfl hq1.2.1.1 hq1.2.1.2.1 (by decide) rfl (Nat.le_of_ble_eq_true rfl) (by decide) (by decide) ?_
      rintro vq mq ⟨e1, e2⟩
      rw [e1, e2]
      clear e1 e2
      simp only [Option.toList_some, Option.toList_none, List.cons_append, List.nil_append]
      refine j_goto (tgt := 37) rfl (by decide) ?_
      refine j_iret rfl rfl ?_ rfl (Nat.le_refl _)
      unfold FX11_feels
      rw [if_pos hb5_1, if_pos hb12_1]
      exact ⟨rfl, rfl⟩

theorem ag_line {G : QW} {m : AM} {b l w : Int} (h : Inv m) (hb1 : -2147483648 ≤ b) (hb2 : b < 2147483648) (hl1 : -2147483648 ≤ l) (hl2 : l < 2147483648) (hw1 : -2147483648 ≤ w) (hw2 : w < 2147483648) : AG G mX11_line mX12_line 2 3 0 0 [vI b, vI l, vI w] m :=
  AG.pure h (ct_X11_line h.s h.i hb1 hb2 hl1 hl2 hw1 hw2 h.1.hx) (ct_X12_line h.s h.i hb1 hb2 hl1 hl2 hw1 hw2) (congrArg vI (line_eq h b l w))
theorem ag_ofRun {G : QW} {m : AM} {b w : Int} (h : Inv m) (hb1 : -2147483648 ≤ b) (hb2 : b < 2147483648) (hw1 : -2147483648 ≤ w) (hw2 : w < 2147483648) : AG G mX11_ofRun mX12_ofRun 0 1 0 0 [vI b, vI w] m :=
  AG.pure h (ct_X11_ofRun h.s h.i hb1 hb2 hw1 hw2) (ct_X12_ofRun h.s h.i hb1 hb2 hw1 hw2) (congrArg vI (ofRun_eq h b w))
theorem ag_firstFault {G : QW} {m : AM} {w : Int} (h : Inv m) (hw1 : -2147483648 ≤ w) (hw2 : w < 2147483648) : AG G mX11_firstFault mX12_firstFault 0 1 0 0 [vI w] m :=
  AG.pure h (ct_X11_firstFault h.s h.i hw1 hw2) (ct_X12_firstFault h.s h.i hw1 hw2) (congrArg vI (firstFault_eq h w))
theorem ag_began {G : QW} {m : AM} {k : Int} (h : Inv m) (hk1 : -2147483648 ≤ k) (hk2 : k < 2147483648) : AG G mX11_began mX12_began 0 1 0 0 [vI k] m :=
  AG.pure h (ct_X11_began h.s h.i hk1 hk2) (ct_X12_began h.s h.i hk1 hk2) (congrArg vI (began_eq h k))
theorem ag_trace {G : QW} {m : AM} {i : Int} (h : Inv m) (hi1 : -2147483648 ≤ i) (hi2 : i < 2147483648) : AG G mX11_trace mX12_trace 0 0 0 0 [vI i] m :=
  AG.pure h (ct_X11_trace h.s h.i hi1 hi2) (ct_X12_trace h.s h.i hi1 hi2) (congrArg vI (trace_eq h i))
theorem ag_count {G : QW} {m : AM} {w : Int} (h : Inv m) (hw1 : -2147483648 ≤ w) (hw2 : w < 2147483648) : AG G mX11_count mX12_count 0 0 0 0 [vI w] m :=
  AG.pure h (ct_X11_count h.s h.i hw1 hw2) (ct_X12_count h.s h.i hw1 hw2) (congrArg vI (count_eq h w))
theorem ag_taken {G : QW} {m : AM} {s k : Int} (h : Inv m) (hT : TB G) (hs1 : -2147483648 ≤ s) (hs2 : s < 2147483648) (hk1 : -2147483648 ≤ k) (hk2 : k < 2147483648) : AG G mX11_taken mX12_taken 1 2 0 0 [vI s, vI k] m :=
  AG.pure h (ct_X11_taken h.s h.i hs1 hs2 hk1 hk2 hT h.1.hx) (ct_X12_taken h.s h.i hs1 hs2 hk1 hk2) (congrArg vI (taken_eq h s k))
theorem ag_saw {G : QW} {m : AM} {p o : Int} (h : Inv m) (hp1 : -2147483648 ≤ p) (hp2 : p < 2147483648) (ho1 : -2147483648 ≤ o) (ho2 : o < 2147483648) : AG G mX11_saw mX12_saw 2 2 0 0 [vI p, vI o] m :=
  AG.pure h (ct_X11_saw h.s h.i hp1 hp2 ho1 ho2) (ct_X12_saw h.s h.i hp1 hp2 ho1 ho2) (congrArg vI (saw_eq h p o))
theorem Inv.l4 {m : AM} (h : Inv m) {s : Int} (hs : 0 ≤ s ∧ s ≤ 5) : 0 ≤ mi m (68 + 3 * s.toNat) 4 ∧ mi m (68 + 3 * s.toNat) 4 ≤ 60 := (shelf_eq h hs).2.2.2.2.1
theorem ag_element {G : QW} {m : AM} {s i : Int} (h : Inv m) (hs1 : -2147483648 ≤ s) (hs2 : s < 2147483648) (hi1 : -2147483648 ≤ i) (hi2 : i < 2147483648) : AG G mX11_element mX12_element 2 3 0 0 [vI s, vI i] m :=
  AG.pure h (cg_element h.s h.i hs1 hs2 hi1 hi2 (fun q => (h.l4 q).2)) (ct_X12_element h.s h.i hs1 hs2 hi1 hi2) (congrArg vL (element_eq h s i))
theorem ag_feels {G : QW} {m : AM} {k t : Int} (h : Inv m) (hk1 : -2147483648 ≤ k) (hk2 : k < 2147483648) (ht1 : -2147483648 ≤ t) (ht2 : t < 2147483648) : AG G mX11_feels mX12_feels 2 3 0 0 [vI k, vI t] m :=
  AG.pure h (cg_feels h.s h.i hk1 hk2 ht1 ht2 h.1.hf (fun q => by
    have F := (h.1.flt q.1.2.1.1 q.1.2.1.2).2.1
    have a := F.2.2.2.1 (k % 10).toNat
    have b := F.2.2.2.2.1 (k % 10).toNat
    have c := F.2.2.2.2.2.1 (k % 10).toNat
    have d := F.2.2.2.2.2.2.1 (k % 10).toNat
    have g : -199000 ≤ t * mi m (fl m (k / 10) + 2) (k % 10).toNat ∧ t * mi m (fl m (k / 10) + 2) (k % 10).toNat ≤ 199000 := by
      generalize mi m (fl m (k / 10) + 2) (k % 10).toNat = y at b
      have t0 := q.2
      have u1 := Int.mul_le_mul_of_nonneg_left b.1 t0.1
      have u2 := Int.mul_le_mul_of_nonneg_left b.2 t0.1
      omega
    exact ⟨d.2, c.1, by omega⟩)) (ct_X12_feels h.s h.i hk1 hk2 ht1 ht2) (congrArg vI (feels_eq h k t))

def FX11_element (m : AM) (sh : Int) (i : Int) : Int :=
  if (FX11_refusalOf m sh i) ≠ 0 then
    (-9223372036854775808)
  else
    (FX7_wholeAt m (68 + 3 * sh.toNat) i)
set_option maxRecDepth 20000 in
set_option maxHeartbeats 4000000 in
theorem ct_X11_element {G : QW} {m : AM} (hS : St m) (hI : IM m) {sh : Int} {i : Int} (hsh1 : -2147483648 ≤ sh) (hsh2 : sh < 2147483648) (hi1 : -2147483648 ≤ i) (hi2 : i < 2147483648) (hlen : mi m (68 + 3 * sh.toNat) 4 ≤ 60) : qM G mX11_element 2 0 0 [vR 0, vI sh, vI i] m (fun r m' => r = some (vL (FX11_element m sh i)) ∧ m' = m) := by
  refine qM.intro okX11_element (Nat.le_of_ble_eq_true rfl) ?_
  refine j_aload_n rfl rfl ?_
  refine j_iload_n rfl rfl ?_
  refine j_iload_n rfl rfl ?_
  refine j_callV (ci := 11) rfl okX11_refusalOf c_X11_378 (ct_X11_refusalOf hS hI (by omega) (by omega) (by omega) (by omega)) rfl rfl (hS.lt (by decide)) (hS.k (by decide) (by decide)) (by decide) rfl (Nat.le_of_ble_eq_true rfl) (by decide) (by decide) ?_
  rintro vq mq ⟨e1, e2⟩
  rw [e1, e2]
  clear e1 e2
  simp only [Option.toList_some, Option.toList_none, List.cons_append, List.nil_append]
  have hrr := FX11_refusal_rng m sh i
  refine j_if_ne (tgt := 22) rfl (by decide) (by omega) (by omega) (fun hb6_1 => ?_) (fun hb6_1 => ?_)
  · skip
    refine j_ldc2 (v := -9223372036854775808) rfl k_X11_393 ?_
    refine j_lret rfl rfl ?_ rfl (Nat.le_refl _)
    unfold FX11_element
    rw [if_pos hb6_1]
    exact ⟨rfl, rfl⟩
  · skip
    have hok := refusal_ok (m := m) (s := sh) (i := i) hlen (by omega)
    obtain ⟨hok1, hok2⟩ := hok
    refine j_aload_n rfl rfl ?_
    refine j_getR (q := 5) rfl f_X11_30 rfl (hS.lt (by decide)) (hS.k (by decide) (by decide)) (hS.r (by decide)) ?_
    refine j_iload_n rfl rfl ?_
    have hq1 := hS.sh sh (by omega) (by omega)
    refine j_aald (k := 19) (n := 6) (v := (68 + 3 * sh.toNat)) rfl (hS.lt (by decide)) (hS.k (by decide) (by decide)) el19 (hS.n (by decide) (by decide)) (by omega) (by omega) (by decide) hq1.1 ?_
    refine j_iload_n rfl rfl ?_
    refine j_callV (ci := 7) rfl okX7_wholeAt c_X11_388 (ct_X7_wholeAt (by omega) (by omega) hq1.2 (by omega) (by omega)) rfl rfl hq1.2.1 hq1.2.2.1 (by decide) rfl (Nat.le_of_ble_eq_true rfl) (by decide) (by decide) ?_
    rintro vq mq ⟨e1, e2⟩
    rw [e1, e2]
    clear e1 e2
    simp only [Option.toList_some, Option.toList_none, List.cons_append, List.nil_append]
    refine j_goto (tgt := 25) rfl (by decide) ?_
    refine j_lret rfl rfl ?_ rfl (Nat.le_refl _)
    unfold FX11_element
    rw [if_neg (not_not_intro hb6_1)]
    exact ⟨rfl, rfl⟩

def FX11_feels (m : AM) (k : Int) (t : Int) : Int :=
  if 0 ≤ k ∧ (0 ≤ k / 10 ∧ k / 10 < mi m 0 17) ∧ k % 10 ≤ 2 then
    if 0 ≤ t ∧ t ≤ 199 then
      (FX3_feltAt m (fl m (k / 10)) (k % 10) t)
    else
      (-2000000000)
  else
    (-2000000000)
set_option maxRecDepth 20000 in
set_option maxHeartbeats 4000000 in
theorem ct_X11_feels {G : QW} {m : AM} (hS : St m) (hI : IM m) {k : Int} {t : Int} (hk1 : -2147483648 ≤ k) (hk2 : k < 2147483648) (ht1 : -2147483648 ≤ t) (ht2 : t < 2147483648) (hFl : HF m) (hn5 : mi m ((fl m (k / 10)) + 4) (k % 10).toNat ≤ 60) (hc5 : 0 ≤ mi m ((fl m (k / 10)) + 3) (k % 10).toNat) (hv5 : -2147483648 ≤ mi m ((fl m (k / 10)) + 1) (k % 10).toNat + t * (mi m ((fl m (k / 10)) + 2) (k % 10).toNat) ∧ mi m ((fl m (k / 10)) + 1) (k % 10).toNat + t * (mi m ((fl m (k / 10)) + 2) (k % 10).toNat) < 2147483648) : qM G mX11_feels 2 0 0 [vR 0, vI k, vI t] m (fun r m' => r = some (vI (FX11_feels m k t)) ∧ m' = m) := by
  refine qM.intro okX11_feels (Nat.le_of_ble_eq_true rfl) ?_
  refine j_aload_n rfl rfl ?_
  refine j_iload_n rfl rfl ?_
  refine j_callV (ci := 11) rfl okX11_isFelt c_X11_159 (ct_X11_isFelt hS hI (by omega) (by omega)) rfl rfl (hS.lt (by decide)) (hS.k (by decide) (by decide)) (by decide) rfl (Nat.le_of_ble_eq_true rfl) (by decide) (by decide) ?_
  rintro vq mq ⟨e1, e2⟩
  rw [e1, e2]
  clear e1 e2
  simp only [Option.toList_some, Option.toList_none, List.cons_append, List.nil_append]
  have w1 := hI.s 0 17 (0) 8 (by decide)
  refine j_bif_eq (tgt := 35) rfl (by decide) (fun hb5_1 => ?_) (fun hb5_1 => ?_)
  · skip
    refine j_ldc (v := -2000000000) rfl k_X11_136 ?_
    refine j_iret rfl rfl ?_ rfl (Nat.le_refl _)
    unfold FX11_feels
    rw [if_neg hb5_1]
    exact ⟨rfl, rfl⟩
  · skip
    refine j_iload_n rfl rfl ?_
    refine j_callS (As := [_]) rfl okX11_isTick c_X11_184 (ct_X11_isTick (by omega) (by omega)) rfl rfl (Nat.le_of_ble_eq_true rfl) (by decide) (by decide) ?_
    rintro vq mq ⟨e1, e2⟩
    rw [e1, e2]
    clear e1 e2
    simp only [Option.toList_some, Option.toList_none, List.cons_append, List.nil_append]
    refine j_bif_eq (tgt := 35) rfl (by decide) (fun hb12_1 => ?_) (fun hb12_1 => ?_)
    · skip
      refine j_ldc (v := -2000000000) rfl k_X11_136 ?_
      refine j_iret rfl rfl ?_ rfl (Nat.le_refl _)
      unfold FX11_feels
      rw [if_pos hb5_1, if_neg hb12_1]
      exact ⟨rfl, rfl⟩
    · skip
      refine j_aload_n rfl rfl ?_
      refine j_getR (q := 4) rfl f_X11_24 rfl (hS.lt (by decide)) (hS.k (by decide) (by decide)) (hS.r (by decide)) ?_
      refine j_iload_n rfl rfl ?_
      refine j_bipush rfl (by decide) ?_
      refine j_idivN rfl (by omega) (by omega) (by omega) (by omega) ?_
      have hq1 := hFl (k / 10) (by omega) (by omega)
      refine j_aald (k := 18) (n := 8) (v := (fl m (k / 10))) rfl (hS.lt (by decide)) (hS.k (by decide) (by decide)) el18 (hS.n (by decide) (by decide)) (by omega) (by omega) (by decide) hq1.1 ?_
      refine j_iload_n rfl rfl ?_
      refine j_bipush rfl (by decide) ?_
      refine j_iremN rfl (by omega) (by omega) (by omega) (by omega) ?_
      refine j_iload_n rfl rfl ?_
      refine j_callV (ci := 3) rfl okX3_feltAt c_X11_187 (ct_X3_feltAt hq1.2.1 (by have q := hq1.2.2 (k % 10).toNat (by omega); rw [show (fl m (k / 10)) + 5 = (fl m (k / 10)) + 5 from rfl]; exact q) (by omega) (by omega) hn5 hc5 hv5) rfl rfl hq1.2.1.1 hq1.2.1.2.1 (by decide) rfl (Nat.le_of_ble_eq_true rfl) (by decide) (by decide) ?_
      rintro vq mq ⟨e1, e2⟩
      rw [e1, e2]
      clear e1 e2
      simp only [Option.toList_some, Option.toList_none, List.cons_append, List.nil_append]
      refine j_goto (tgt := 37) rfl (by decide) ?_
      refine j_iret rfl rfl ?_ rfl (Nat.le_refl _)
      unfold FX11_feels
      rw [if_pos hb5_1, if_pos hb12_1]
      exact ⟨rfl, rfl⟩


theorem refusal_ok {m : AM} {s i : Int} (hl : mi m (68 + 3 * s.toNat) 4 ≤ 60) (h : FX11_refusalOf m s i = 0) : (0 ≤ s ∧ s ≤ 5) ∧ 0 ≤ i ∧ i ≤ 59 := by
  unfold FX11_refusalOf at h
  (repeat' split at h) <;> omega

theorem FX11_refusal_rng (m : AM) (s i : Int) : -10000 ≤ FX11_refusalOf m s i ∧ FX11_refusalOf m s i ≤ 10000 := by
  unfold FX11_refusalOf
  (repeat' split) <;> omega

def FX11_put (m : AM) (sh : Int) (i : Int) (v : Int) : Int × AM :=
  if (FX11_refusalOf m sh i) = 0 then
    (1, (FX7_set m (68 + 3 * sh.toNat) i v))
  else
    ((FX11_refusalOf m sh i), m)
set_option maxRecDepth 20000 in
set_option maxHeartbeats 4000000 in
theorem ct_X11_put {G : QW} {m : AM} (hS : St m) (hI : IM m) {sh : Int} {i : Int} {v : Int} (hsh1 : -2147483648 ≤ sh) (hsh2 : sh < 2147483648) (hi1 : -2147483648 ≤ i) (hi2 : i < 2147483648) (hv1 : -9223372036854775808 ≤ v) (hv2 : v < 9223372036854775808) (hlen : mi m (68 + 3 * sh.toNat) 4 ≤ 60) : qM G mX11_put 2 0 0 [vR 0, vI sh, vI i, vL v] m (fun r m' => r = some (vI (FX11_put m sh i v).1) ∧ m' = (FX11_put m sh i v).2) := by
  refine qM.intro okX11_put (Nat.le_of_ble_eq_true rfl) ?_
  refine j_aload_n rfl rfl ?_
  refine j_iload_n rfl rfl ?_
  refine j_iload_n rfl rfl ?_
  refine j_callV (ci := 11) rfl okX11_refusalOf c_X11_378 (ct_X11_refusalOf hS hI (by omega) (by omega) (by omega) (by omega)) rfl rfl (hS.lt (by decide)) (hS.k (by decide) (by decide)) (by decide) rfl (Nat.le_of_ble_eq_true rfl) (by decide) (by decide) ?_
  rintro vq mq ⟨e1, e2⟩
  rw [e1, e2]
  clear e1 e2
  simp only [Option.toList_some, Option.toList_none, List.cons_append, List.nil_append]
  have hrr := FX11_refusal_rng m sh i
  refine j_istore rfl (by decide) ?_
  refine j_iload rfl rfl ?_
  refine j_if_eq (tgt := 16) rfl (by decide) (by omega) (by omega) (fun hb10_1 => ?_) (fun hb10_1 => ?_)
  · skip
    have hok := refusal_ok (m := m) (s := sh) (i := i) hlen (by omega)
    obtain ⟨hok1, hok2⟩ := hok
    refine j_aload_n rfl rfl ?_
    refine j_getR (q := 5) rfl f_X11_30 rfl (hS.lt (by decide)) (hS.k (by decide) (by decide)) (hS.r (by decide)) ?_
    refine j_iload_n rfl rfl ?_
    have hq1 := hS.sh sh (by omega) (by omega)
    refine j_aald (k := 19) (n := 6) (v := (68 + 3 * sh.toNat)) rfl (hS.lt (by decide)) (hS.k (by decide) (by decide)) el19 (hS.n (by decide) (by decide)) (by omega) (by omega) (by decide) hq1.1 ?_
    refine j_iload_n rfl rfl ?_
    refine j_lload_n rfl rfl ?_
    refine j_callV (ci := 7) rfl okX7_set c_X11_381 (ct_X7_set (by omega) (by omega) hq1.2 (by omega) hv1 hv2) rfl rfl hq1.2.1 hq1.2.2.1 (by decide) rfl (Nat.le_of_ble_eq_true rfl) (by decide) (by decide) ?_
    rintro vq mq ⟨e1, e2⟩
    rw [e1, e2]
    clear e1 e2
    simp only [Option.toList_some, Option.toList_none, List.cons_append, List.nil_append]
    refine j_iconst rfl ?_
    refine j_iret rfl rfl ?_ rfl (Nat.le_refl _)
    unfold FX11_put
    rw [if_pos hb10_1]
    exact ⟨rfl, rfl⟩
  · skip
    refine j_iload rfl rfl ?_
    refine j_iret rfl rfl ?_ rfl (Nat.le_refl _)
    unfold FX11_put
    rw [if_neg hb10_1]
    exact ⟨rfl, rfl⟩


/-! bytes -/
theorem iand255 (x : Int) : z_iand x 255 = ((zi x).toBitVec.toNat % 256 : Nat) := by
  have e : (zi x &&& zi 255).toBitVec.toNat = (zi x).toBitVec.toNat % 256 := by
    rw [Int32.toBitVec_and, BitVec.toNat_and]
    exact Nat.and_two_pow_sub_one_eq_mod _ 8
  unfold z_iand
  show (zi x &&& zi 255).toBitVec.toInt = _
  rw [BitVec.toInt_eq_toNat_of_lt (by rw [e]; omega), e]
theorem i2b_tw (x : Int) : z_i2b (z_i2b x) = if z_iand x 255 < 128 then z_iand x 255 else z_iand x 255 - 256 := by
  have h : ∀ y : Int, z_i2b y = (zi y).toInt.bmod 256 := fun y => by
    unfold z_i2b
    rw [Int8.toInt_toInt32, Int32.toInt_toInt8]
  have hx : (zi x).toInt.bmod 256 = if ((zi x).toBitVec.toNat % 256 : Nat) < 128 then (((zi x).toBitVec.toNat % 256 : Nat) : Int) else (((zi x).toBitVec.toNat % 256 : Nat) : Int) - 256 := by
    have g : (zi x).toInt = (zi x).toBitVec.toInt := rfl
    rw [g, BitVec.toInt_eq_toNat_bmod, Int.bmod_def, Int.bmod_def]
    split <;> split <;> split <;> omega
  have r : -128 ≤ (zi x).toInt.bmod 256 ∧ (zi x).toInt.bmod 256 < 128 := by rw [Int.bmod_def]; split <;> omega
  have z : ∀ v : Int, -128 ≤ v → v < 128 → (zi v).toInt = v := fun v h1 h2 => by
    unfold zi
    exact Int32.toInt_ofInt_of_le (by omega) (by omega)
  rw [h (z_i2b x), h x, z _ r.1 r.2, iand255, hx]
  have q : ∀ v : Int, -128 ≤ v → v < 128 → v.bmod 256 = v := fun v h1 h2 => by rw [Int.bmod_def]; split <;> omega
  have hm : (zi x).toBitVec.toNat % 256 < 256 := Nat.mod_lt _ (by decide)
  split
  · rw [q _ (by omega) (by omega), if_pos (by omega)]
  · rw [q _ (by omega) (by omega), if_neg (by omega)]

/-- the class's tape is the reference's -/
def K5 (m : AM) : Prop := mi m 1 1 = mi m 86 16 ∧ ∀ j : Nat, (j : Int) < mi m 86 16 → mi m 100 j = if mi m 2 j < 128 then mi m 2 j else mi m 2 j - 256
/-- bytes of a number onto the class's tape -/
def fdC (v : Int) : Nat → Int → AM → AM
  | 0, _, N => N
  | x + 1, k, N => fdC v x (k + 1) (FX6_append N (z_iand (z_ishr v (8 * k)) 255))
def fedC (m : AM) (n v : Int) : Int × AM :=
  if 1 ≤ n ∧ n ≤ 4 then if mi m 1 1 + n > 160 then (-3, m) else (mi (fdC v n.toNat 0 m) 1 1, fdC v n.toNat 0 m) else (-1, m)
theorem and255 (x : Int) : 0 ≤ z_iand x 255 ∧ z_iand x 255 ≤ 255 := by
  rw [iand255]
  omega
theorem app_e {N : AM} {b : Int} (h : mi N 1 1 < 160) : FX6_append N b = si (si N 2 (mi N 1 1).toNat b) 1 1 (mi N 1 1 + 1) := if_neg (by omega)
theorem app_im {N : AM} (hI : IM N) {b : Int} (hb : 0 ≤ b ∧ b ≤ 255) : IM (FX6_append N b) := by
  have h := hI.s 1 1 0 160 (by decide)
  by_cases c : mi N 1 1 ≥ 160
  · rw [show FX6_append N b = N from if_pos c]; exact hI
  · rw [app_e (by omega)]
    have a : IM (si N 2 (mi N 1 1).toNat b) := hI.cell 0 255 (fun q hq e _ => (by decide : ∀ q ∈ imA, q.1 = 2 → q.2.1 = 0 ∧ q.2.2 = 255) q hq e) (by decide) hb (by omega) (by decide) (by decide) (by decide) (by decide)
    exact a.scal 0 160 (by decide) (by decide) (by omega) (by omega) (by decide) (by decide) (by decide) (by decide)

set_option maxRecDepth 20000 in
set_option maxHeartbeats 4000000 in
theorem lp_feedC {G : QW} {E : AM} {n v : Int} {Rp : Option Vl → AM → Prop} (hn4 : n ≤ 4) (hexit : qJ G mX11_feed { frames := 1, cells := 0, slots := 0, locals := 60 * 1 } (qF G Rp 0 0) 60 [(0, vR 0), (1, vI n), (2, vI v)] [] E 0 0) : ∀ (x : Nat) (k : Int) (N : AM), St N → IM N → k + x = n → 0 ≤ k → 0 ≤ mi N 1 1 → mi N 1 1 + x ≤ 160 → fdC v x k N = E → qJ G mX11_feed { frames := 1, cells := 0, slots := 0, locals := 60 * 1 } (qF G Rp 0 0) 32 [(0, vR 0), (1, vI n), (2, vI v), (3, vI k)] [] N 0 0 := by
  intro x
  induction x with
  | zero =>
    intro k N hS hI hx hk0 ht0 ht hE
    refine j_iload_n rfl rfl ?_
    refine j_iload_n rfl rfl ?_
    refine j_icmp_ge (tgt := 60) rfl (by decide) (by omega) (by omega) (by omega) (by omega) (fun hb => ?_) (fun hb => by exfalso; omega)
    refine j_loc (ls' := [(0, vR 0), (1, vI n), (2, vI v)]) rfl ?_
    rw [show E = N from hE.symm] at hexit
    exact hexit
  | succ x ih =>
    intro k N hS hI hx hk0 ht0 ht hE
    have hE : fdC v x (k + 1) (FX6_append N (z_iand (z_ishr v (8 * k)) 255)) = E := hE
    refine j_iload_n rfl rfl ?_
    refine j_iload_n rfl rfl ?_
    refine j_icmp_ge (tgt := 60) rfl (by decide) (by omega) (by omega) (by omega) (by omega) (fun hb34_1 => ?_) (fun hb34_1 => ?_)
    · skip
      exfalso
      omega
    · skip
      have hab := and255 (z_ishr v (8 * k))
      refine j_aload_n rfl rfl ?_
      refine j_getR (q := 1) rfl f_X11_12 rfl (hS.lt (by decide)) (hS.k (by decide) (by decide)) (hS.r (by decide)) ?_
      refine j_iload_n rfl rfl ?_
      refine j_bipush rfl (by decide) ?_
      refine j_iload_n rfl rfl ?_
      refine j_imul rfl ?_
      refine j_ishr rfl ?_
      have z46_1 := z_ishr_rng v (8 * k)
      refine j_sipush rfl (by decide) ?_
      refine j_iand rfl ?_
      have z50_1 := z_iand_rng (z_ishr v (8 * k)) 255
      refine j_callV (ci := 6) rfl okX6_append c_X11_109 (ct_X6_append hS hI (by have := hab; omega) (by have := hab; omega)) rfl rfl (hS.lt (by decide)) (hS.k (by decide) (by decide)) (by decide) rfl (Nat.le_of_ble_eq_true rfl) (by decide) (by decide) ?_
      rintro vq mq ⟨e1, e2⟩
      rw [e1, e2]
      clear e1 e2
      simp only [Option.toList_some, Option.toList_none, List.cons_append, List.nil_append]
      refine j_iinc rfl rfl (by decide) ?_
      refine j_goto (tgt := 32) rfl (by decide) ?_
      refine j_loc (ls' := [(0, vR 0), (1, vI n), (2, vI v), (3, vI (k + 1))]) rfl ?_
      have eA := app_e (N := N) (b := z_iand (z_ishr v (8 * k)) 255) (by omega)
      have hS2 : St (FX6_append N (z_iand (z_ishr v (8 * k)) 255)) := by rw [eA]; exact hS
      have et : mi (FX6_append N (z_iand (z_ishr v (8 * k)) 255)) 1 1 = mi N 1 1 + 1 := by rw [eA]; exact mi_si_same _ _ _ (by omega) (by omega)
      exact ih (k + 1) _ hS2 (app_im hI hab) (by omega) (by omega) (by rw [et]; omega) (by rw [et]; omega) hE

theorem fdC_k (v : Int) : ∀ (x : Nat) (k : Int) (N : AM), St N → IM N → mi N 1 1 + x ≤ 160 → St (fdC v x k N) ∧ IM (fdC v x k N) ∧ mi (fdC v x k N) 1 1 = mi N 1 1 + x ∧ (∀ c j, c ≠ 1 → c ≠ 2 → mi (fdC v x k N) c j = mi N c j) ∧ (∀ j, j ≠ 1 → mi (fdC v x k N) 1 j = mi N 1 j) ∧ (fdC v x k N).2 = N.2 := by
  intro x
  induction x with
  | zero => intro k N hS hI _; exact ⟨hS, hI, by show mi N 1 1 = mi N 1 1 + ((0 : Nat) : Int); omega, fun _ _ _ _ => rfl, fun _ _ => rfl, rfl⟩
  | succ x ih =>
    intro k N hS hI h
    have h0 := hI.s 1 1 0 160 (by decide)
    have eA := app_e (N := N) (b := z_iand (z_ishr v (8 * k)) 255) (by omega)
    have et : mi (FX6_append N (z_iand (z_ishr v (8 * k)) 255)) 1 1 = mi N 1 1 + 1 := by rw [eA]; exact mi_si_same _ _ _ (by omega) (by omega)
    obtain ⟨a1, a2, a3, a4, a5, a6⟩ := ih (k + 1) (FX6_append N (z_iand (z_ishr v (8 * k)) 255)) (by rw [eA]; exact hS) (app_im hI (and255 _)) (by rw [et]; omega)
    refine ⟨a1, a2, a3.trans (by rw [et]; omega), fun c j h1 h2 => (a4 c j h1 h2).trans (by rw [eA, mi_si_ne _ _ (fun q => h1 q.1), mi_si_ne _ _ (fun q => h2 q.1)]), fun j hj => (a5 j hj).trans (by rw [eA, mi_si_ne _ _ (fun q => hj q.2), mi_si_ne _ _ (by omega)]), a6.trans (by rw [eA]; rfl)⟩

set_option maxRecDepth 20000 in
set_option maxHeartbeats 4000000 in
/-- feed() of the class -/
theorem cr_feed {G : QW} {m : AM} {n v : Int} (hS : St m) (hI : IM m) (hn1 : -2147483648 ≤ n) (hn2 : n < 2147483648) (hv1 : -2147483648 ≤ v) (hv2 : v < 2147483648) : qM G mX11_feed 1 0 0 [vR 0, vI n, vI v] m (fun r m' => r = some (vI (fedC m n v).1) ∧ m' = (fedC m n v).2) := by
  refine qM.intro okX11_feed (Nat.le_of_ble_eq_true rfl) ?_
  have h11 := hI.s 1 1 0 160 (by decide)
  refine j_iload_n rfl rfl ?_
  refine j_iconst rfl ?_
  refine j_icmp_lt (tgt := 10) rfl (by decide) (by omega) (by omega) (by omega) (by omega) (fun hb2_1 => ?_) (fun hb2_1 => ?_)
  · skip
    refine j_iconst rfl ?_
    refine j_iret rfl rfl ?_ rfl (Nat.le_refl _)
    have e : fedC m n v = (-1, m) := if_neg (by omega)
    rw [e]
    exact ⟨rfl, rfl⟩
  · skip
    refine j_iload_n rfl rfl ?_
    refine j_iconst rfl ?_
    refine j_icmp_le (tgt := 12) rfl (by decide) (by omega) (by omega) (by omega) (by omega) (fun hb7_1 => ?_) (fun hb7_1 => ?_)
    · skip
      refine j_aload_n rfl rfl ?_
      refine j_getR (q := 1) rfl f_X11_12 rfl (hS.lt (by decide)) (hS.k (by decide) (by decide)) (hS.r (by decide)) ?_
      refine j_getI rfl f_X11_106 rfl (hS.lt (by decide)) (hS.k (by decide) (by decide)) ?_
      have u16_1 := hI.s 1 1 (0) 160 (by decide)
      refine j_iload_n rfl rfl ?_
      refine j_iadd rfl ?_
      refine j_sipush rfl (by decide) ?_
      refine j_icmp_le (tgt := 30) rfl (by decide) (by omega) (by omega) (by omega) (by omega) (fun hb24_1 => ?_) (fun hb24_1 => ?_)
      · skip
        refine j_iconst rfl ?_
        refine j_istore_n rfl (by decide) ?_
        refine j_loc (ls' := [(0, vR 0), (1, vI n), (2, vI v), (3, vI 0)]) rfl ?_
        refine lp_feedC (E := fdC v n.toNat 0 m) (by omega) ?_ n.toNat 0 m hS hI (by omega) (by omega) (by omega) (by omega) rfl
        have hSE : St (fdC v n.toNat 0 m) := (fdC_k v n.toNat 0 m hS hI (by omega)).1
        refine j_aload_n rfl rfl ?_
        refine j_getR (q := 1) rfl f_X11_12 rfl (hSE.lt (by decide)) (hSE.k (by decide) (by decide)) (hSE.r (by decide)) ?_
        refine j_getI rfl f_X11_106 rfl (hSE.lt (by decide)) (hSE.k (by decide) (by decide)) ?_
        have u64_1 := mi_rng (fdC v n.toNat 0 m) 1 1
        refine j_iret rfl rfl ?_ rfl (Nat.le_refl _)
        have e : fedC m n v = (mi (fdC v n.toNat 0 m) 1 1, fdC v n.toNat 0 m) := by unfold fedC; rw [if_pos (by omega), if_neg (by omega)]
        rw [e]
        exact ⟨rfl, rfl⟩
      · skip
        refine j_bipush rfl (by decide) ?_
        refine j_iret rfl rfl ?_ rfl (Nat.le_refl _)
        have e : fedC m n v = (-3, m) := by unfold fedC; rw [if_pos (by omega), if_pos (by omega)]
        rw [e]
        exact ⟨rfl, rfl⟩
    · skip
      refine j_iconst rfl ?_
      refine j_iret rfl rfl ?_ rfl (Nat.le_refl _)
      have e : fedC m n v = (-1, m) := if_neg (by omega)
      rw [e]
      exact ⟨rfl, rfl⟩


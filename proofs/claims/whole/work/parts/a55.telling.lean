/-- which FELTs the words of a program read, by the class -/
def frC (m : AM) (p : Nat) : Nat → Int
  | 0 => 0
  | n + 1 => z_ior (frC m p n) (if z_ishr (mi m (p + 1) n) 20 = 3 then z_ishl 1 (z_iand (mi m (p + 1) n) 1048575) else 0)
theorem frC_rng (m : AM) (p n : Nat) : -2147483648 ≤ frC m p n ∧ frC m p n < 2147483648 := by
  cases n with
  | zero => exact (by decide : (-2147483648 : Int) ≤ 0 ∧ (0 : Int) < 2147483648)
  | succ n => exact z_ior_rng _ _
theorem frC_up {m : AM} {p : Nat} {j : Int} (h : 0 ≤ j) : frC m p (j + 1).toNat = z_ior (frC m p j.toNat) (if z_ishr (mi m (p + 1) j.toNat) 20 = 3 then z_ishl 1 (z_iand (mi m (p + 1) j.toNat) 1048575) else 0) := by
  rw [show (j + 1).toNat = j.toNat + 1 by omega]
  rfl
def faC (m : AM) : Nat → Int
  | 0 => 0
  | b + 1 => z_ior (faC m b) (frC m (pg m b) (mi m (pg m b) 5).toNat)
theorem faC_rng (m : AM) (n : Nat) : -2147483648 ≤ faC m n ∧ faC m n < 2147483648 := by
  cases n with
  | zero => exact (by decide : (-2147483648 : Int) ≤ 0 ∧ (0 : Int) < 2147483648)
  | succ n => exact z_ior_rng _ _
theorem faC_up {m : AM} {b : Int} (h : 0 ≤ b) : faC m (b + 1).toNat = z_ior (faC m b.toNat) (frC m (pg m b) (mi m (pg m b) 5).toNat) := by
  rw [show (b + 1).toNat = b.toNat + 1 by omega]
  show z_ior (faC m b.toNat) (frC m (pg m ((b.toNat : Nat) : Int)) (mi m (pg m ((b.toNat : Nat) : Int)) 5).toNat) = _
  rw [show ((b.toNat : Nat) : Int) = b by omega]

set_option maxRecDepth 20000 in
set_option maxHeartbeats 4000000 in
theorem lp_feltsReadP {G : QW} {m : AM} {p : Nat} (hO : ObA m p 5 fsProg) (hu : 0 ≤ mi m p 5 ∧ mi m p 5 ≤ 160) : ∀ (c : Nat) (j : Int), j + c = mi m p 5 → 0 ≤ j → qJ G mX5_feltsRead { frames := 0, cells := 0, slots := 0, locals := 60 * 0 } (qF G (fun r m' => r = some (vI (frC m p (mi m p 5).toNat)) ∧ m' = m) 0 0) 4 [(0, vR p), (1, vI (frC m p j.toNat)), (2, vI j)] [] m 0 0 := by
  intro c
  induction c with
  | zero =>
    intro j hj hj0
    refine j_iload_n rfl rfl ?_
    refine j_aload_n rfl rfl ?_
    refine j_getI rfl f_X5_27 rfl hO.1 hO.2.1 ?_
    refine j_icmp_ge (tgt := 49) rfl (by decide) (by omega) (by omega) (by omega) (by omega) (fun hb => ?_) (fun hb => by exfalso; omega)
    refine j_iload_n rfl rfl ?_
    refine j_iret rfl rfl ?_ rfl (Nat.le_refl _)
    exact ⟨by rw [show mi m p 5 = j by omega], rfl⟩
  | succ c ih =>
    intro j hj hj0
    have hfr := frC_rng m p j.toNat
    refine j_iload_n rfl rfl ?_
    refine j_aload_n rfl rfl ?_
    refine j_getI rfl f_X5_27 rfl hO.1 hO.2.1 ?_
    have u6_1 := mi_rng m p 5
    refine j_icmp_ge (tgt := 49) rfl (by decide) (by omega) (by omega) (by omega) (by omega) (fun hb9_1 => ?_) (fun hb9_1 => ?_)
    · skip
      exfalso
      omega
    · skip
      refine j_iload_n rfl rfl ?_
      refine j_aload_n rfl rfl ?_
      refine j_getR (q := (p + 1)) rfl f_X5_9 rfl hO.1 hO.2.1 (hO.q 0 1 13 160 (by decide)).1 ?_
      refine j_iload_n rfl rfl ?_
      refine j_iald (n := 160) rfl (hO.q 0 1 13 160 (by decide)).2.1 (hO.q 0 1 13 160 (by decide)).2.2.1 (hO.q 0 1 13 160 (by decide)).2.2.2 (by omega) (by omega) (by decide) ?_
      have u18_1 := mi_rng m (p + 1) j.toNat
      refine j_bipush rfl (by decide) ?_
      refine j_ishr rfl ?_
      have z21_1 := z_ishr_rng (mi m (p + 1) j.toNat) 20
      refine j_iconst rfl ?_
      refine j_icmp_ne (tgt := 40) rfl (by decide) (by omega) (by omega) (by omega) (by omega) (fun hb23_1 => ?_) (fun hb23_1 => ?_)
      · skip
        refine j_iconst rfl ?_
        refine j_ior rfl ?_
        have z41_1 := z_ior_rng (frC m p j.toNat) 0
        refine j_istore_n rfl (by decide) ?_
        refine j_iinc rfl rfl (by decide) ?_
        refine j_goto (tgt := 4) rfl (by decide) ?_
        refine j_loc (ls' := [(0, vR p), (1, vI (z_ior (frC m p j.toNat) 0)), (2, vI (j + 1))]) rfl ?_
        have eu := frC_up (m := m) (p := p) hj0
        rw [if_neg (by omega)] at eu
        rw [← eu]
        exact ih (j + 1) (by omega) (by omega)
      · skip
        refine j_iconst rfl ?_
        refine j_aload_n rfl rfl ?_
        refine j_getR (q := (p + 1)) rfl f_X5_9 rfl hO.1 hO.2.1 (hO.q 0 1 13 160 (by decide)).1 ?_
        refine j_iload_n rfl rfl ?_
        refine j_iald (n := 160) rfl (hO.q 0 1 13 160 (by decide)).2.1 (hO.q 0 1 13 160 (by decide)).2.2.1 (hO.q 0 1 13 160 (by decide)).2.2.2 (by omega) (by omega) (by decide) ?_
        have u32_1 := mi_rng m (p + 1) j.toNat
        refine j_ldc (v := 1048575) rfl k_X5_40 ?_
        refine j_iand rfl ?_
        have z35_1 := z_iand_rng (mi m (p + 1) j.toNat) 1048575
        refine j_ishl rfl ?_
        have z36_1 := z_ishl_rng 1 (z_iand (mi m (p + 1) j.toNat) 1048575)
        refine j_goto (tgt := 41) rfl (by decide) ?_
        refine j_ior rfl ?_
        have z41_2 := z_ior_rng (frC m p j.toNat) (z_ishl 1 (z_iand (mi m (p + 1) j.toNat) 1048575))
        refine j_istore_n rfl (by decide) ?_
        refine j_iinc rfl rfl (by decide) ?_
        refine j_goto (tgt := 4) rfl (by decide) ?_
        refine j_loc (ls' := [(0, vR p), (1, vI (z_ior (frC m p j.toNat) (z_ishl 1 (z_iand (mi m (p + 1) j.toNat) 1048575)))), (2, vI (j + 1))]) rfl ?_
        have eu := frC_up (m := m) (p := p) hj0
        rw [if_pos (by omega)] at eu
        rw [← eu]
        exact ih (j + 1) (by omega) (by omega)

set_option maxRecDepth 20000 in
set_option maxHeartbeats 4000000 in
theorem ct_feltsReadP {G : QW} {m : AM} {p : Nat} (hO : ObA m p 5 fsProg) (hu : 0 ≤ mi m p 5 ∧ mi m p 5 ≤ 160) : qM G mX5_feltsRead 0 0 0 [vR p] m (fun r m' => r = some (vI (frC m p (mi m p 5).toNat)) ∧ m' = m) := by
  refine qM.intro okX5_feltsRead (Nat.le_of_ble_eq_true rfl) ?_
  refine j_iconst rfl ?_
  refine j_istore_n rfl (by decide) ?_
  refine j_iconst rfl ?_
  refine j_istore_n rfl (by decide) ?_
  refine j_loc (ls' := [(0, vR p), (1, vI (frC m p (0 : Int).toNat)), (2, vI 0)]) rfl ?_
  exact lp_feltsReadP hO hu (mi m p 5).toNat 0 (by omega) (by decide)

/-- programs hold what their lines need -/
def K3 (m : AM) : Prop := ∀ b : Int, 0 ≤ b → b < mi m 0 16 → (0 ≤ mi m (pg m b) 5 ∧ mi m (pg m b) 5 ≤ 160) ∧ ∀ l : Int, 0 ≤ l → l < (wN m).nl b → ((wN m).at3 b l).2.2 ≤ mi m (pg m b) 5

set_option maxRecDepth 20000 in
set_option maxHeartbeats 4000000 in
theorem lp_feltsReadA {G : QW} {m : AM} (h : QR m) (h3 : K3 m) : ∀ (c : Nat) (b : Int), b + c = mi m 0 16 → 0 ≤ b → qJ G mX11_feltsRead { frames := 1, cells := 0, slots := 0, locals := 60 * 1 } (qF G (fun r m' => r = some (vI (faC m (mi m 0 16).toNat)) ∧ m' = m) 0 0) 4 [(0, vR 0), (1, vI (faC m b.toNat)), (2, vI b)] [] m 0 0 := by
  have hS := h.s
  have hI := h.i
  have h16 := hI.s 0 16 0 6 (by decide)
  intro c
  induction c with
  | zero =>
    intro b hc hb0
    refine j_iload_n rfl rfl ?_
    refine j_aload_n rfl rfl ?_
    refine j_getI rfl f_X11_113 rfl (hS.lt (by decide)) (hS.k (by decide) (by decide)) ?_
    refine j_icmp_ge (tgt := 33) rfl (by decide) (by omega) (by omega) (by omega) (by omega) (fun hb => ?_) (fun hb => by exfalso; omega)
    refine j_iload_n rfl rfl ?_
    refine j_iret rfl rfl ?_ rfl (Nat.le_refl _)
    exact ⟨by rw [show mi m 0 16 = b by omega], rfl⟩
  | succ c ih =>
    intro b hc hb0
    have hfa := faC_rng m b.toNat
    have hB := (h.2.1.2 b hb0 (by rw [← h.2.1.1]; omega)).1
    refine j_iload_n rfl rfl ?_
    refine j_aload_n rfl rfl ?_
    refine j_getI rfl f_X11_113 rfl (hS.lt (by decide)) (hS.k (by decide) (by decide)) ?_
    have u6_1 := hI.s 0 16 (0) 6 (by decide)
    refine j_icmp_ge (tgt := 33) rfl (by decide) (by omega) (by omega) (by omega) (by omega) (fun hb9_1 => ?_) (fun hb9_1 => ?_)
    · skip
      exfalso
      omega
    · skip
      refine j_iload_n rfl rfl ?_
      refine j_aload_n rfl rfl ?_
      refine j_getR (q := 3) rfl f_X11_18 rfl (hS.lt (by decide)) (hS.k (by decide) (by decide)) (hS.r (by decide)) ?_
      refine j_iload_n rfl rfl ?_
      refine j_aald (k := 17) (n := 6) (v := (bx m b)) rfl (hS.lt (by decide)) (hS.k (by decide) (by decide)) el17 (hS.n (by decide) (by decide)) (by omega) (by omega) (by decide) hB.1.1 ?_
      refine j_getR (q := (pg m b)) rfl f_X11_127 rfl hB.1.2.1.1 hB.1.2.1.2.1 hB.1.2.2.1 ?_
      refine j_callV (ci := 5) rfl okX5_feltsRead c_X11_435 (ct_feltsReadP hB.1.2.2.2 (h3 b hb0 (by omega)).1) rfl rfl hB.1.2.2.2.1 hB.1.2.2.2.2.1 (by decide) rfl (Nat.le_of_ble_eq_true rfl) (by decide) (by decide) ?_
      rintro vq mq ⟨e1, e2⟩
      rw [e1, e2]
      clear e1 e2
      simp only [Option.toList_some, Option.toList_none, List.cons_append, List.nil_append]
      have hfr := frC_rng m (pg m b) (mi m (pg m b) 5).toNat
      refine j_ior rfl ?_
      have z25_1 := z_ior_rng (faC m b.toNat) (frC m (pg m b) (mi m (pg m b) 5).toNat)
      refine j_istore_n rfl (by decide) ?_
      refine j_iinc rfl rfl (by decide) ?_
      refine j_goto (tgt := 4) rfl (by decide) ?_
      refine j_loc (ls' := [(0, vR 0), (1, vI (z_ior (faC m b.toNat) (frC m (pg m b) (mi m (pg m b) 5).toNat))), (2, vI (b + 1))]) rfl ?_
      rw [← faC_up hb0]
      exact ih (b + 1) (by omega) (by omega)

set_option maxRecDepth 20000 in
set_option maxHeartbeats 4000000 in
theorem ct_feltsReadA {G : QW} {m : AM} (h : QR m) (h3 : K3 m) : qM G mX11_feltsRead 1 0 0 [vR 0] m (fun r m' => r = some (vI (faC m (mi m 0 16).toNat)) ∧ m' = m) := by
  have h16 := h.i.s 0 16 0 6 (by decide)
  refine qM.intro okX11_feltsRead (Nat.le_of_ble_eq_true rfl) ?_
  refine j_iconst rfl ?_
  refine j_istore_n rfl (by decide) ?_
  refine j_iconst rfl ?_
  refine j_istore_n rfl (by decide) ?_
  refine j_loc (ls' := [(0, vR 0), (1, vI (faC m (0 : Int).toNat)), (2, vI 0)]) rfl ?_
  exact lp_feltsReadA h h3 (mi m 0 16).toNat 0 (by omega) (by decide)

set_option maxRecDepth 20000 in
set_option maxHeartbeats 4000000 in
theorem ct_beginnings {G : QW} {m : AM} {k : Int} (hS : St m) (hI : IM m) (hk : 0 ≤ k ∧ k ≤ 1) : qM G mX8_beginnings 0 0 0 [vR 12, vI k] m (fun r m' => r = some (vL (((1 * (((mi m 14 ((k * 3) + 0).toNat) - (mi m 13 ((k * 3) + 0).toNat)) + 1)) * (((mi m 14 ((k * 3) + 1).toNat) - (mi m 13 ((k * 3) + 1).toNat)) + 1)) * (((mi m 14 ((k * 3) + 2).toNat) - (mi m 13 ((k * 3) + 2).toNat)) + 1))) ∧ m' = m) := by
  refine qM.intro okX8_beginnings (Nat.le_of_ble_eq_true rfl) ?_
  refine j_lconst (v := 1) rfl (by decide) ?_
  refine j_lstore_n rfl (by decide) ?_
  refine j_iconst rfl ?_
  refine j_istore rfl (by decide) ?_
  refine j_iload rfl rfl ?_
  refine j_iconst rfl ?_
  refine j_icmp_ge (tgt := 46) rfl (by decide) (by omega) (by omega) (by omega) (by omega) (fun hb8_1 => ?_) (fun hb8_1 => ?_)
  · skip
    exact absurd hb8_1 (by decide)
  · skip
    refine j_lload_n rfl rfl ?_
    refine j_aload_n rfl rfl ?_
    refine j_getR (q := 14) rfl f_X8_15 rfl (hS.lt (by decide)) (hS.k (by decide) (by decide)) (hS.r (by decide)) ?_
    refine j_iload_n rfl rfl ?_
    refine j_iconst rfl ?_
    refine j_imul rfl ?_
    refine j_iload rfl rfl ?_
    refine j_iadd rfl ?_
    refine j_iald (n := 6) rfl (hS.lt (by decide)) (hS.k (by decide) (by decide)) (hS.n (by decide) (by decide)) (by omega) (by omega) (by decide) ?_
    have u22_1 := hI.a 14 (-99999) 99999 (by decide) ((k * 3) + 0).toNat
    refine j_aload_n rfl rfl ?_
    refine j_getR (q := 13) rfl f_X8_9 rfl (hS.lt (by decide)) (hS.k (by decide) (by decide)) (hS.r (by decide)) ?_
    refine j_iload_n rfl rfl ?_
    refine j_iconst rfl ?_
    refine j_imul rfl ?_
    refine j_iload rfl rfl ?_
    refine j_iadd rfl ?_
    refine j_iald (n := 6) rfl (hS.lt (by decide)) (hS.k (by decide) (by decide)) (hS.n (by decide) (by decide)) (by omega) (by omega) (by decide) ?_
    have u33_1 := hI.a 13 (-99999) 99999 (by decide) ((k * 3) + 0).toNat
    refine j_isub rfl ?_
    refine j_iconst rfl ?_
    refine j_iadd rfl ?_
    refine j_i2l rfl (by omega) (by omega) ?_
    refine j_lmul rfl ?_
    refine j_lstore_n rfl (by decide) ?_
    refine j_iinc rfl rfl (by decide) ?_
    refine j_loc (ls' := [(0, vR 12), (1, vI k), (2, vL (1 * (((mi m 14 ((k * 3) + 0).toNat) - (mi m 13 ((k * 3) + 0).toNat)) + 1))), (4, vI 1)]) rfl ?_
    refine j_goto (tgt := 5) rfl (by decide) ?_
    refine j_iload rfl rfl ?_
    refine j_iconst rfl ?_
    refine j_icmp_ge (tgt := 46) rfl (by decide) (by omega) (by omega) (by omega) (by omega) (fun hb8_2 => ?_) (fun hb8_2 => ?_)
    · skip
      exact absurd hb8_2 (by decide)
    · skip
      refine j_lload_n rfl rfl ?_
      refine j_aload_n rfl rfl ?_
      refine j_getR (q := 14) rfl f_X8_15 rfl (hS.lt (by decide)) (hS.k (by decide) (by decide)) (hS.r (by decide)) ?_
      refine j_iload_n rfl rfl ?_
      refine j_iconst rfl ?_
      refine j_imul rfl ?_
      refine j_iload rfl rfl ?_
      refine j_iadd rfl ?_
      refine j_iald (n := 6) rfl (hS.lt (by decide)) (hS.k (by decide) (by decide)) (hS.n (by decide) (by decide)) (by omega) (by omega) (by decide) ?_
      have u22_2 := hI.a 14 (-99999) 99999 (by decide) ((k * 3) + 1).toNat
      refine j_aload_n rfl rfl ?_
      refine j_getR (q := 13) rfl f_X8_9 rfl (hS.lt (by decide)) (hS.k (by decide) (by decide)) (hS.r (by decide)) ?_
      refine j_iload_n rfl rfl ?_
      refine j_iconst rfl ?_
      refine j_imul rfl ?_
      refine j_iload rfl rfl ?_
      refine j_iadd rfl ?_
      refine j_iald (n := 6) rfl (hS.lt (by decide)) (hS.k (by decide) (by decide)) (hS.n (by decide) (by decide)) (by omega) (by omega) (by decide) ?_
      have u33_2 := hI.a 13 (-99999) 99999 (by decide) ((k * 3) + 1).toNat
      refine j_isub rfl ?_
      refine j_iconst rfl ?_
      refine j_iadd rfl ?_
      refine j_i2l rfl (by omega) (by omega) ?_
      refine j_lmul rfl ?_
      refine j_lstore_n rfl (by decide) ?_
      refine j_iinc rfl rfl (by decide) ?_
      refine j_loc (ls' := [(0, vR 12), (1, vI k), (2, vL ((1 * (((mi m 14 ((k * 3) + 0).toNat) - (mi m 13 ((k * 3) + 0).toNat)) + 1)) * (((mi m 14 ((k * 3) + 1).toNat) - (mi m 13 ((k * 3) + 1).toNat)) + 1))), (4, vI 2)]) rfl ?_
      refine j_goto (tgt := 5) rfl (by decide) ?_
      refine j_iload rfl rfl ?_
      refine j_iconst rfl ?_
      refine j_icmp_ge (tgt := 46) rfl (by decide) (by omega) (by omega) (by omega) (by omega) (fun hb8_3 => ?_) (fun hb8_3 => ?_)
      · skip
        exact absurd hb8_3 (by decide)
      · skip
        refine j_lload_n rfl rfl ?_
        refine j_aload_n rfl rfl ?_
        refine j_getR (q := 14) rfl f_X8_15 rfl (hS.lt (by decide)) (hS.k (by decide) (by decide)) (hS.r (by decide)) ?_
        refine j_iload_n rfl rfl ?_
        refine j_iconst rfl ?_
        refine j_imul rfl ?_
        refine j_iload rfl rfl ?_
        refine j_iadd rfl ?_
        refine j_iald (n := 6) rfl (hS.lt (by decide)) (hS.k (by decide) (by decide)) (hS.n (by decide) (by decide)) (by omega) (by omega) (by decide) ?_
        have u22_3 := hI.a 14 (-99999) 99999 (by decide) ((k * 3) + 2).toNat
        refine j_aload_n rfl rfl ?_
        refine j_getR (q := 13) rfl f_X8_9 rfl (hS.lt (by decide)) (hS.k (by decide) (by decide)) (hS.r (by decide)) ?_
        refine j_iload_n rfl rfl ?_
        refine j_iconst rfl ?_
        refine j_imul rfl ?_
        refine j_iload rfl rfl ?_
        refine j_iadd rfl ?_
        refine j_iald (n := 6) rfl (hS.lt (by decide)) (hS.k (by decide) (by decide)) (hS.n (by decide) (by decide)) (by omega) (by omega) (by decide) ?_
        have u33_3 := hI.a 13 (-99999) 99999 (by decide) ((k * 3) + 2).toNat
        refine j_isub rfl ?_
        refine j_iconst rfl ?_
        refine j_iadd rfl ?_
        refine j_i2l rfl (by omega) (by omega) ?_
        refine j_lmul rfl ?_
        refine j_lstore_n rfl (by decide) ?_
        refine j_iinc rfl rfl (by decide) ?_
        refine j_loc (ls' := [(0, vR 12), (1, vI k), (2, vL (((1 * (((mi m 14 ((k * 3) + 0).toNat) - (mi m 13 ((k * 3) + 0).toNat)) + 1)) * (((mi m 14 ((k * 3) + 1).toNat) - (mi m 13 ((k * 3) + 1).toNat)) + 1)) * (((mi m 14 ((k * 3) + 2).toNat) - (mi m 13 ((k * 3) + 2).toNat)) + 1))), (4, vI 3)]) rfl ?_
        refine j_goto (tgt := 5) rfl (by decide) ?_
        refine j_iload rfl rfl ?_
        refine j_iconst rfl ?_
        refine j_icmp_ge (tgt := 46) rfl (by decide) (by omega) (by omega) (by omega) (by omega) (fun hb8_4 => ?_) (fun hb8_4 => ?_)
        · skip
          refine j_lload_n rfl rfl ?_
          refine j_lret rfl rfl ?_ rfl (Nat.le_refl _)
          exact ⟨rfl, rfl⟩
        · skip
          exact absurd hb8_4 (by decide)

set_option maxRecDepth 20000 in
set_option maxHeartbeats 4000000 in
theorem ct_putFirst {G : QW} {m : AM} {k : Int} (hS : St m) (hI : IM m) (hk : 0 ≤ k ∧ k ≤ 1) : qM G mX8_putFirst 1 0 0 [vR 12, vI k, vR 49] m (fun r m' => r = none ∧ m' = cpi m 49 13 (k * 3).toNat 0 3) := by
  refine qM.intro okX8_putFirst (Nat.le_of_ble_eq_true rfl) ?_
  refine j_aload_n rfl rfl ?_
  refine j_getR (q := 13) rfl f_X8_9 rfl (hS.lt (by decide)) (hS.k (by decide) (by decide)) (hS.r (by decide)) ?_
  refine j_iload_n rfl rfl ?_
  refine j_iconst rfl ?_
  refine j_imul rfl ?_
  refine j_aload_n rfl rfl ?_
  refine j_iconst rfl ?_
  refine j_iconst rfl ?_
  rw [show (k * 3 : Int) = (((k * 3).toNat : Nat) : Int) by omega]
  refine j_copyI (sp := (k * 3).toNat) (dp := 0) (n := 3) rfl cp_X8_25 (hS.lt (by decide)) (hS.lt (by decide)) (hS.k (by decide) (by decide)) (hS.k (by decide) (by decide)) (by rw [hS.n (n := 13) (k := 6) (by decide) (by decide)]; omega) (Nat.le_of_eq (hS.n (n := 49) (k := 3) (by decide) (by decide)).symm) (by omega) (by decide) (by decide) (by decide) (by decide) ?_
  refine j_vret rfl rfl ?_ rfl (Nat.le_refl _)
  exact ⟨rfl, rfl⟩

/-- a beginning differs from the first one in nothing that isn't read -/
def tlP (N : AM) (k rd : Int) : Prop := ∀ j : Nat, j < 3 → bt rd j = false → mi N 49 j = mi N 13 ((k * 3) + j).toNat

set_option maxRecDepth 20000 in
set_option maxHeartbeats 4000000 in
theorem lp_isTelling {G : QW} {N : AM} {k rd : Int} (hS : St N) (hI : IM N) (hk : 0 ≤ k ∧ k ≤ 1) (hr : -2147483648 ≤ rd ∧ rd < 2147483648) : ∀ (c : Nat) (i : Int), 3 - i < c → (0 ≤ i ∧ i ≤ 3) → (∀ j : Nat, (j : Int) < i → bt rd j = false → mi N 49 j = mi N 13 ((k * 3) + j).toNat) → qJ G mX8_isTelling { frames := 0, cells := 0, slots := 0, locals := 60 * 0 } (qF G (fun r m' => m' = N ∧ ((tlP N k rd ∧ r = some (vI 1)) ∨ (¬ tlP N k rd ∧ r = some (vI 0)))) 0 0) 3 [(0, vR 12), (1, vI k), (2, vR 49), (3, vI rd), (4, vI i)] [] N 0 0 := by
  intro c
  induction c with
  | zero => intro i h; omega
  | succ c ih =>
    intro i hc hi hh
    refine j_iload rfl rfl ?_
    refine j_iconst rfl ?_
    refine j_icmp_ge (tgt := 44) rfl (by decide) (by omega) (by omega) (by omega) (by omega) (fun hb6_1 => ?_) (fun hb6_1 => ?_)
    · skip
      refine j_iconst rfl ?_
      refine j_zret rfl rfl (by decide) ?_ rfl (Nat.le_refl _)
      exact ⟨rfl, Or.inl ⟨fun j hj g => hh j (by omega) g, rfl⟩⟩
    · skip
      refine j_iload_n rfl rfl ?_
      refine j_iload rfl rfl ?_
      refine j_ishr rfl ?_
      have z12_1 := z_ishr_rng rd i
      refine j_iconst rfl ?_
      refine j_iand rfl ?_
      have z14_1 := z_iand_rng (z_ishr rd i) 1
      refine j_if_ne (tgt := 38) rfl (by decide) (by omega) (by omega) (fun hb15_1 => ?_) (fun hb15_1 => ?_)
      · skip
        refine j_iinc rfl rfl (by decide) ?_
        refine j_goto (tgt := 3) rfl (by decide) ?_
        refine j_loc (ls' := [(0, vR 12), (1, vI k), (2, vR 49), (3, vI rd), (4, vI (i + 1))]) rfl ?_
        refine ih (i + 1) (by omega) (by omega) (fun j hj g => ?_)
        by_cases z : j = i.toNat
        · have hb := bitI rd hi.1 (by omega)
          rw [z] at g ⊢
          rw [show ((i.toNat : Nat) : Int) = i by omega]
          rw [g] at hb; simp at hb; omega
        · exact hh j (by omega) g
      · skip
        refine j_aload_n rfl rfl ?_
        refine j_iload rfl rfl ?_
        refine j_iald (n := 3) rfl (hS.lt (by decide)) (hS.k (by decide) (by decide)) (hS.n (by decide) (by decide)) (by omega) (by omega) (by decide) ?_
        have u21_1 := mi_rng N 49 i.toNat
        refine j_aload_n rfl rfl ?_
        refine j_getR (q := 13) rfl f_X8_9 rfl (hS.lt (by decide)) (hS.k (by decide) (by decide)) (hS.r (by decide)) ?_
        refine j_iload_n rfl rfl ?_
        refine j_iconst rfl ?_
        refine j_imul rfl ?_
        refine j_iload rfl rfl ?_
        refine j_iadd rfl ?_
        refine j_iald (n := 6) rfl (hS.lt (by decide)) (hS.k (by decide) (by decide)) (hS.n (by decide) (by decide)) (by omega) (by omega) (by decide) ?_
        have u32_1 := hI.a 13 (-99999) 99999 (by decide) ((k * 3) + i).toNat
        refine j_icmp_eq (tgt := 38) rfl (by decide) (by omega) (by omega) (by omega) (by omega) (fun hb33_1 => ?_) (fun hb33_1 => ?_)
        · skip
          refine j_iinc rfl rfl (by decide) ?_
          refine j_goto (tgt := 3) rfl (by decide) ?_
          refine j_loc (ls' := [(0, vR 12), (1, vI k), (2, vR 49), (3, vI rd), (4, vI (i + 1))]) rfl ?_
          refine ih (i + 1) (by omega) (by omega) (fun j hj g => ?_)
          by_cases z : j = i.toNat
          · have hb := bitI rd hi.1 (by omega)
            rw [z] at g ⊢
            rw [show ((i.toNat : Nat) : Int) = i by omega]
            exact hb33_1
          · exact hh j (by omega) g
        · skip
          refine j_iconst rfl ?_
          refine j_zret rfl rfl (by decide) ?_ rfl (Nat.le_refl _)
          refine ⟨rfl, Or.inr ⟨fun g => ?_, rfl⟩⟩
          have hb := bitI rd hi.1 (show i < 32 by omega)
          have bq : bt rd i.toNat = false := by
            cases z : bt rd i.toNat
            · rfl
            · rw [z] at hb; simp at hb; omega
          have := g i.toNat (by omega) bq
          rw [show ((i.toNat : Nat) : Int) = i by omega] at this
          exact hb33_1 this

set_option maxRecDepth 20000 in
set_option maxHeartbeats 4000000 in
theorem ct_isTelling {G : QW} {N : AM} {k rd : Int} (hS : St N) (hI : IM N) (hk : 0 ≤ k ∧ k ≤ 1) (hr : -2147483648 ≤ rd ∧ rd < 2147483648) : qM G mX8_isTelling 0 0 0 [vR 12, vI k, vR 49, vI rd] N (fun r m' => m' = N ∧ ((tlP N k rd ∧ r = some (vI 1)) ∨ (¬ tlP N k rd ∧ r = some (vI 0)))) := by
  refine qM.intro okX8_isTelling (Nat.le_of_ble_eq_true rfl) ?_
  refine j_iconst rfl ?_
  refine j_istore rfl (by decide) ?_
  refine j_loc (ls' := [(0, vR 12), (1, vI k), (2, vR 49), (3, vI rd), (4, vI 0)]) rfl ?_
  exact lp_isTelling hS hI hk hr 4 0 (by omega) (by omega) (fun j hj => by omega)

/-- the next beginning -/
def nxM (m : AM) (k : Int) : Int × AM :=
  if mi m 49 (2 : Int).toNat < mi m 14 ((k * 3) + 2).toNat then (1, si m 49 (2 : Int).toNat (mi m 49 (2 : Int).toNat + 1))
  else if mi m 49 (1 : Int).toNat < mi m 14 ((k * 3) + 1).toNat then (1, si (si m 49 (2 : Int).toNat (mi m 13 ((k * 3) + 2).toNat)) 49 (1 : Int).toNat (mi m 49 (1 : Int).toNat + 1))
  else if mi m 49 (0 : Int).toNat < mi m 14 ((k * 3) + 0).toNat then (1, si (si (si m 49 (2 : Int).toNat (mi m 13 ((k * 3) + 2).toNat)) 49 (1 : Int).toNat (mi m 13 ((k * 3) + 1).toNat)) 49 (0 : Int).toNat (mi m 49 (0 : Int).toNat + 1))
  else (0, (si (si (si m 49 (2 : Int).toNat (mi m 13 ((k * 3) + 2).toNat)) 49 (1 : Int).toNat (mi m 13 ((k * 3) + 1).toNat)) 49 (0 : Int).toNat (mi m 13 ((k * 3) + 0).toNat)))

set_option maxRecDepth 20000 in
set_option maxHeartbeats 4000000 in
theorem ct_putNext {G : QW} {m : AM} {k : Int} (hS : St m) (hI : IM m) (hk : 0 ≤ k ∧ k ≤ 1) : qM G mX8_putNext 0 0 0 [vR 12, vI k, vR 49] m (fun r m' => r = some (vI (nxM m k).1) ∧ m' = (nxM m k).2) := by
  refine qM.intro okX8_putNext (Nat.le_of_ble_eq_true rfl) ?_
  refine j_iconst rfl ?_
  refine j_istore_n rfl (by decide) ?_
  refine j_iload_n rfl rfl ?_
  refine j_if_lt (tgt := 50) rfl (by decide) (by omega) (by omega) (fun hb3_1 => ?_) (fun hb3_1 => ?_)
  · skip
    exact absurd hb3_1 (by decide)
  · skip
    refine j_aload_n rfl rfl ?_
    refine j_iload_n rfl rfl ?_
    refine j_iald (n := 3) rfl (hS.lt (by decide)) (hS.k (by decide) (by decide)) (hS.n (by decide) (by decide)) (by omega) (by omega) (by decide) ?_
    have u8_1 := mi_rng m 49 (2 : Int).toNat
    refine j_aload_n rfl rfl ?_
    refine j_getR (q := 14) rfl f_X8_15 rfl (hS.lt (by decide)) (hS.k (by decide) (by decide)) (hS.r (by decide)) ?_
    refine j_iload_n rfl rfl ?_
    refine j_iconst rfl ?_
    refine j_imul rfl ?_
    refine j_iload_n rfl rfl ?_
    refine j_iadd rfl ?_
    refine j_iald (n := 6) rfl (hS.lt (by decide)) (hS.k (by decide) (by decide)) (hS.n (by decide) (by decide)) (by omega) (by omega) (by decide) ?_
    have u18_1 := hI.a 14 (-99999) 99999 (by decide) ((k * 3) + 2).toNat
    refine j_icmp_ge (tgt := 31) rfl (by decide) (by omega) (by omega) (by omega) (by omega) (fun hb19_1 => ?_) (fun hb19_1 => ?_)
    · skip
      refine j_aload_n rfl rfl ?_
      refine j_iload_n rfl rfl ?_
      refine j_aload_n rfl rfl ?_
      refine j_getR (q := 13) rfl f_X8_9 rfl (hS.lt (by decide)) (hS.k (by decide) (by decide)) (hS.r (by decide)) ?_
      refine j_iload_n rfl rfl ?_
      refine j_iconst rfl ?_
      refine j_imul rfl ?_
      refine j_iload_n rfl rfl ?_
      refine j_iadd rfl ?_
      refine j_iald (n := 6) rfl (hS.lt (by decide)) (hS.k (by decide) (by decide)) (hS.n (by decide) (by decide)) (by omega) (by omega) (by decide) ?_
      have u42_1 := hI.a 13 (-99999) 99999 (by decide) ((k * 3) + 2).toNat
      refine j_iast (n := 3) rfl (hS.lt (by decide)) (hS.k (by decide) (by decide)) (hS.n (by decide) (by decide)) (by omega) (by omega) (by first | decide | omega) ?_
      refine j_iinc rfl rfl (by decide) ?_
      refine j_loc (ls' := [(0, vR 12), (1, vI k), (2, vR 49), (3, vI 1)]) rfl ?_
      refine j_goto (tgt := 2) rfl (by decide) ?_
      refine j_iload_n rfl rfl ?_
      refine j_if_lt (tgt := 50) rfl (by decide) (by omega) (by omega) (fun hb3_2 => ?_) (fun hb3_2 => ?_)
      · skip
        exact absurd hb3_2 (by decide)
      · skip
        refine j_aload_n rfl rfl ?_
        refine j_iload_n rfl rfl ?_
        refine j_iald (n := 3) rfl (hS.lt (by decide)) (hS.k (by decide) (by decide)) (hS.n (by decide) (by decide)) (by omega) (by omega) (by decide) ?_
        have u8_2 := mi_rng (si m 49 (2 : Int).toNat (mi m 13 ((k * 3) + 2).toNat)) 49 (1 : Int).toNat
        refine j_aload_n rfl rfl ?_
        refine j_getR (q := 14) rfl f_X8_15 rfl (hS.lt (by decide)) (hS.k (by decide) (by decide)) (hS.r (by decide)) ?_
        refine j_iload_n rfl rfl ?_
        refine j_iconst rfl ?_
        refine j_imul rfl ?_
        refine j_iload_n rfl rfl ?_
        refine j_iadd rfl ?_
        refine j_iald (n := 6) rfl (hS.lt (by decide)) (hS.k (by decide) (by decide)) (hS.n (by decide) (by decide)) (by omega) (by omega) (by decide) ?_
        rw [show mi (si m 49 (2 : Int).toNat (mi m 13 ((k * 3) + 2).toNat)) 14 ((k * 3) + 1).toNat = mi m 14 ((k * 3) + 1).toNat from by simp [mi_si, mi_fil, mi_cpr, mi_sl, mi_sr, ml_sl, ml_si, ml_sr, ml_fil, ml_cpr]]
        have u18_2 := hI.a 14 (-99999) 99999 (by decide) ((k * 3) + 1).toNat
        refine j_icmp_ge (tgt := 31) rfl (by decide) (by omega) (by omega) (by omega) (by omega) (fun hb19_2 => ?_) (fun hb19_2 => ?_)
        · skip
          refine j_aload_n rfl rfl ?_
          refine j_iload_n rfl rfl ?_
          refine j_aload_n rfl rfl ?_
          refine j_getR (q := 13) rfl f_X8_9 rfl (hS.lt (by decide)) (hS.k (by decide) (by decide)) (hS.r (by decide)) ?_
          refine j_iload_n rfl rfl ?_
          refine j_iconst rfl ?_
          refine j_imul rfl ?_
          refine j_iload_n rfl rfl ?_
          refine j_iadd rfl ?_
          refine j_iald (n := 6) rfl (hS.lt (by decide)) (hS.k (by decide) (by decide)) (hS.n (by decide) (by decide)) (by omega) (by omega) (by decide) ?_
          rw [show mi (si m 49 (2 : Int).toNat (mi m 13 ((k * 3) + 2).toNat)) 13 ((k * 3) + 1).toNat = mi m 13 ((k * 3) + 1).toNat from by simp [mi_si, mi_fil, mi_cpr, mi_sl, mi_sr, ml_sl, ml_si, ml_sr, ml_fil, ml_cpr]]
          have u42_2 := hI.a 13 (-99999) 99999 (by decide) ((k * 3) + 1).toNat
          refine j_iast (n := 3) rfl (hS.lt (by decide)) (hS.k (by decide) (by decide)) (hS.n (by decide) (by decide)) (by omega) (by omega) (by first | decide | omega) ?_
          refine j_iinc rfl rfl (by decide) ?_
          refine j_loc (ls' := [(0, vR 12), (1, vI k), (2, vR 49), (3, vI 0)]) rfl ?_
          refine j_goto (tgt := 2) rfl (by decide) ?_
          refine j_iload_n rfl rfl ?_
          refine j_if_lt (tgt := 50) rfl (by decide) (by omega) (by omega) (fun hb3_3 => ?_) (fun hb3_3 => ?_)
          · skip
            exact absurd hb3_3 (by decide)
          · skip
            refine j_aload_n rfl rfl ?_
            refine j_iload_n rfl rfl ?_
            refine j_iald (n := 3) rfl (hS.lt (by decide)) (hS.k (by decide) (by decide)) (hS.n (by decide) (by decide)) (by omega) (by omega) (by decide) ?_
            have u8_3 := mi_rng (si (si m 49 (2 : Int).toNat (mi m 13 ((k * 3) + 2).toNat)) 49 (1 : Int).toNat (mi m 13 ((k * 3) + 1).toNat)) 49 (0 : Int).toNat
            refine j_aload_n rfl rfl ?_
            refine j_getR (q := 14) rfl f_X8_15 rfl (hS.lt (by decide)) (hS.k (by decide) (by decide)) (hS.r (by decide)) ?_
            refine j_iload_n rfl rfl ?_
            refine j_iconst rfl ?_
            refine j_imul rfl ?_
            refine j_iload_n rfl rfl ?_
            refine j_iadd rfl ?_
            refine j_iald (n := 6) rfl (hS.lt (by decide)) (hS.k (by decide) (by decide)) (hS.n (by decide) (by decide)) (by omega) (by omega) (by decide) ?_
            rw [show mi (si (si m 49 (2 : Int).toNat (mi m 13 ((k * 3) + 2).toNat)) 49 (1 : Int).toNat (mi m 13 ((k * 3) + 1).toNat)) 14 ((k * 3) + 0).toNat = mi m 14 ((k * 3) + 0).toNat from by simp [mi_si, mi_fil, mi_cpr, mi_sl, mi_sr, ml_sl, ml_si, ml_sr, ml_fil, ml_cpr]]
            have u18_3 := hI.a 14 (-99999) 99999 (by decide) ((k * 3) + 0).toNat
            refine j_icmp_ge (tgt := 31) rfl (by decide) (by omega) (by omega) (by omega) (by omega) (fun hb19_3 => ?_) (fun hb19_3 => ?_)
            · skip
              refine j_aload_n rfl rfl ?_
              refine j_iload_n rfl rfl ?_
              refine j_aload_n rfl rfl ?_
              refine j_getR (q := 13) rfl f_X8_9 rfl (hS.lt (by decide)) (hS.k (by decide) (by decide)) (hS.r (by decide)) ?_
              refine j_iload_n rfl rfl ?_
              refine j_iconst rfl ?_
              refine j_imul rfl ?_
              refine j_iload_n rfl rfl ?_
              refine j_iadd rfl ?_
              refine j_iald (n := 6) rfl (hS.lt (by decide)) (hS.k (by decide) (by decide)) (hS.n (by decide) (by decide)) (by omega) (by omega) (by decide) ?_
              rw [show mi (si (si m 49 (2 : Int).toNat (mi m 13 ((k * 3) + 2).toNat)) 49 (1 : Int).toNat (mi m 13 ((k * 3) + 1).toNat)) 13 ((k * 3) + 0).toNat = mi m 13 ((k * 3) + 0).toNat from by simp [mi_si, mi_fil, mi_cpr, mi_sl, mi_sr, ml_sl, ml_si, ml_sr, ml_fil, ml_cpr]]
              have u42_3 := hI.a 13 (-99999) 99999 (by decide) ((k * 3) + 0).toNat
              refine j_iast (n := 3) rfl (hS.lt (by decide)) (hS.k (by decide) (by decide)) (hS.n (by decide) (by decide)) (by omega) (by omega) (by first | decide | omega) ?_
              refine j_iinc rfl rfl (by decide) ?_
              refine j_loc (ls' := [(0, vR 12), (1, vI k), (2, vR 49), (3, vI (-1))]) rfl ?_
              refine j_goto (tgt := 2) rfl (by decide) ?_
              refine j_iload_n rfl rfl ?_
              refine j_if_lt (tgt := 50) rfl (by decide) (by omega) (by omega) (fun hb3_4 => ?_) (fun hb3_4 => ?_)
              · skip
                refine j_iconst rfl ?_
                refine j_zret rfl rfl (by decide) ?_ rfl (Nat.le_refl _)
                have e1 : mi (si m 49 (2 : Int).toNat (mi m 13 ((k * 3) + 2).toNat)) 49 (1 : Int).toNat = mi m 49 (1 : Int).toNat := mi_si_ne _ _ (by decide)
                have e0 : mi (si (si m 49 (2 : Int).toNat (mi m 13 ((k * 3) + 2).toNat)) 49 (1 : Int).toNat (mi m 13 ((k * 3) + 1).toNat)) 49 (0 : Int).toNat = mi m 49 (0 : Int).toNat := by rw [mi_si_ne _ _ (by decide), mi_si_ne _ _ (by decide)]
                have g1 : mi (si m 49 (2 : Int).toNat (mi m 13 ((k * 3) + 2).toNat)) 14 ((k * 3) + 1).toNat = mi m 14 ((k * 3) + 1).toNat := mi_si_ne _ _ (by omega)
                have g0 : mi (si (si m 49 (2 : Int).toNat (mi m 13 ((k * 3) + 2).toNat)) 49 (1 : Int).toNat (mi m 13 ((k * 3) + 1).toNat)) 14 ((k * 3) + 0).toNat = mi m 14 ((k * 3) + 0).toNat := by rw [mi_si_ne _ _ (by omega), mi_si_ne _ _ (by omega)]
                try rw [e1] at hb19_2
                try rw [e0] at hb19_2
                try rw [g1] at hb19_2
                try rw [g0] at hb19_2
                try rw [e1] at hb19_3
                try rw [e0] at hb19_3
                try rw [g1] at hb19_3
                try rw [g0] at hb19_3
                have en : nxM m k = (0, (si (si (si m 49 (2 : Int).toNat (mi m 13 ((k * 3) + 2).toNat)) 49 (1 : Int).toNat (mi m 13 ((k * 3) + 1).toNat)) 49 (0 : Int).toNat (mi m 13 ((k * 3) + 0).toNat))) := by unfold nxM; rw [if_neg (by omega), if_neg (by omega), if_neg (by omega)]
                rw [en]
                exact ⟨rfl, rfl⟩
              · skip
                exact absurd hb3_4 (by decide)
            · skip
              refine j_aload_n rfl rfl ?_
              refine j_iload_n rfl rfl ?_
              refine j_dup2 rfl (Nat.ne_of_beq_eq_false rfl) (Nat.ne_of_beq_eq_false rfl) ?_
              refine j_iald (n := 3) rfl (hS.lt (by decide)) (hS.k (by decide) (by decide)) (hS.n (by decide) (by decide)) (by omega) (by omega) (by decide) ?_
              have u25_1 := mi_rng (si (si m 49 (2 : Int).toNat (mi m 13 ((k * 3) + 2).toNat)) 49 (1 : Int).toNat (mi m 13 ((k * 3) + 1).toNat)) 49 (0 : Int).toNat
              refine j_iconst rfl ?_
              refine j_iadd rfl ?_
              refine j_iast (n := 3) rfl (hS.lt (by decide)) (hS.k (by decide) (by decide)) (hS.n (by decide) (by decide)) (by omega) (by omega) (by first | decide | omega) ?_
              refine j_iconst rfl ?_
              refine j_zret rfl rfl (by decide) ?_ rfl (Nat.le_refl _)
              have e1 : mi (si m 49 (2 : Int).toNat (mi m 13 ((k * 3) + 2).toNat)) 49 (1 : Int).toNat = mi m 49 (1 : Int).toNat := mi_si_ne _ _ (by decide)
              have e0 : mi (si (si m 49 (2 : Int).toNat (mi m 13 ((k * 3) + 2).toNat)) 49 (1 : Int).toNat (mi m 13 ((k * 3) + 1).toNat)) 49 (0 : Int).toNat = mi m 49 (0 : Int).toNat := by rw [mi_si_ne _ _ (by decide), mi_si_ne _ _ (by decide)]
              have g1 : mi (si m 49 (2 : Int).toNat (mi m 13 ((k * 3) + 2).toNat)) 14 ((k * 3) + 1).toNat = mi m 14 ((k * 3) + 1).toNat := mi_si_ne _ _ (by omega)
              have g0 : mi (si (si m 49 (2 : Int).toNat (mi m 13 ((k * 3) + 2).toNat)) 49 (1 : Int).toNat (mi m 13 ((k * 3) + 1).toNat)) 14 ((k * 3) + 0).toNat = mi m 14 ((k * 3) + 0).toNat := by rw [mi_si_ne _ _ (by omega), mi_si_ne _ _ (by omega)]
              try rw [e1] at hb19_2
              try rw [e0] at hb19_2
              try rw [g1] at hb19_2
              try rw [g0] at hb19_2
              try rw [e1] at hb19_3
              try rw [e0] at hb19_3
              try rw [g1] at hb19_3
              try rw [g0] at hb19_3
              have en : nxM m k = (1, si (si (si m 49 (2 : Int).toNat (mi m 13 ((k * 3) + 2).toNat)) 49 (1 : Int).toNat (mi m 13 ((k * 3) + 1).toNat)) 49 (0 : Int).toNat (mi m 49 (0 : Int).toNat + 1)) := by unfold nxM; rw [if_neg (by omega), if_neg (by omega), if_pos (by omega)]
              rw [en]
              rw [e0]
              exact ⟨rfl, rfl⟩
        · skip
          refine j_aload_n rfl rfl ?_
          refine j_iload_n rfl rfl ?_
          refine j_dup2 rfl (Nat.ne_of_beq_eq_false rfl) (Nat.ne_of_beq_eq_false rfl) ?_
          refine j_iald (n := 3) rfl (hS.lt (by decide)) (hS.k (by decide) (by decide)) (hS.n (by decide) (by decide)) (by omega) (by omega) (by decide) ?_
          have u25_2 := mi_rng (si m 49 (2 : Int).toNat (mi m 13 ((k * 3) + 2).toNat)) 49 (1 : Int).toNat
          refine j_iconst rfl ?_
          refine j_iadd rfl ?_
          refine j_iast (n := 3) rfl (hS.lt (by decide)) (hS.k (by decide) (by decide)) (hS.n (by decide) (by decide)) (by omega) (by omega) (by first | decide | omega) ?_
          refine j_iconst rfl ?_
          refine j_zret rfl rfl (by decide) ?_ rfl (Nat.le_refl _)
          have e1 : mi (si m 49 (2 : Int).toNat (mi m 13 ((k * 3) + 2).toNat)) 49 (1 : Int).toNat = mi m 49 (1 : Int).toNat := mi_si_ne _ _ (by decide)
          have e0 : mi (si (si m 49 (2 : Int).toNat (mi m 13 ((k * 3) + 2).toNat)) 49 (1 : Int).toNat (mi m 13 ((k * 3) + 1).toNat)) 49 (0 : Int).toNat = mi m 49 (0 : Int).toNat := by rw [mi_si_ne _ _ (by decide), mi_si_ne _ _ (by decide)]
          have g1 : mi (si m 49 (2 : Int).toNat (mi m 13 ((k * 3) + 2).toNat)) 14 ((k * 3) + 1).toNat = mi m 14 ((k * 3) + 1).toNat := mi_si_ne _ _ (by omega)
          have g0 : mi (si (si m 49 (2 : Int).toNat (mi m 13 ((k * 3) + 2).toNat)) 49 (1 : Int).toNat (mi m 13 ((k * 3) + 1).toNat)) 14 ((k * 3) + 0).toNat = mi m 14 ((k * 3) + 0).toNat := by rw [mi_si_ne _ _ (by omega), mi_si_ne _ _ (by omega)]
          try rw [e1] at hb19_2
          try rw [e0] at hb19_2
          try rw [g1] at hb19_2
          try rw [g0] at hb19_2
          have en : nxM m k = (1, si (si m 49 (2 : Int).toNat (mi m 13 ((k * 3) + 2).toNat)) 49 (1 : Int).toNat (mi m 49 (1 : Int).toNat + 1)) := by unfold nxM; rw [if_neg (by omega), if_pos (by omega)]
          rw [en]
          rw [e1]
          exact ⟨rfl, rfl⟩
    · skip
      refine j_aload_n rfl rfl ?_
      refine j_iload_n rfl rfl ?_
      refine j_dup2 rfl (Nat.ne_of_beq_eq_false rfl) (Nat.ne_of_beq_eq_false rfl) ?_
      refine j_iald (n := 3) rfl (hS.lt (by decide)) (hS.k (by decide) (by decide)) (hS.n (by decide) (by decide)) (by omega) (by omega) (by decide) ?_
      have u25_3 := mi_rng m 49 (2 : Int).toNat
      refine j_iconst rfl ?_
      refine j_iadd rfl ?_
      refine j_iast (n := 3) rfl (hS.lt (by decide)) (hS.k (by decide) (by decide)) (hS.n (by decide) (by decide)) (by omega) (by omega) (by first | decide | omega) ?_
      refine j_iconst rfl ?_
      refine j_zret rfl rfl (by decide) ?_ rfl (Nat.le_refl _)
      have e1 : mi (si m 49 (2 : Int).toNat (mi m 13 ((k * 3) + 2).toNat)) 49 (1 : Int).toNat = mi m 49 (1 : Int).toNat := mi_si_ne _ _ (by decide)
      have e0 : mi (si (si m 49 (2 : Int).toNat (mi m 13 ((k * 3) + 2).toNat)) 49 (1 : Int).toNat (mi m 13 ((k * 3) + 1).toNat)) 49 (0 : Int).toNat = mi m 49 (0 : Int).toNat := by rw [mi_si_ne _ _ (by decide), mi_si_ne _ _ (by decide)]
      have g1 : mi (si m 49 (2 : Int).toNat (mi m 13 ((k * 3) + 2).toNat)) 14 ((k * 3) + 1).toNat = mi m 14 ((k * 3) + 1).toNat := mi_si_ne _ _ (by omega)
      have g0 : mi (si (si m 49 (2 : Int).toNat (mi m 13 ((k * 3) + 2).toNat)) 49 (1 : Int).toNat (mi m 13 ((k * 3) + 1).toNat)) 14 ((k * 3) + 0).toNat = mi m 14 ((k * 3) + 0).toNat := by rw [mi_si_ne _ _ (by omega), mi_si_ne _ _ (by omega)]
      have en : nxM m k = (1, si m 49 (2 : Int).toNat (mi m 49 (2 : Int).toNat + 1)) := if_pos (by omega)
      rw [en]
      exact ⟨rfl, rfl⟩


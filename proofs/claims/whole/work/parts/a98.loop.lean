/-! the law: its loop, and the whole -/
set_option maxRecDepth 20000 in
set_option maxHeartbeats 4000000 in
theorem law_sw {G : QW} (hT : TB G) (hL : G.oL 0 ≤ 3072) {i : Int} (hi : 0 ≤ i) (hj : i + 6 ≤ (G.oL 0 : Int)) {m : AM} (h : Inv m) {cc cs : Nat} (hc : cc ≤ 10000) (hs : cs ≤ 1000000) (kk : ∀ (m2 : AM) (c2 s2 : Nat), Inv m2 → c2 ≤ cc + 9 → s2 ≤ cs + 235 → qJ G (mLw iLH) room_1 (LF G) 1786 (lawL i) [] m2 c2 s2) {a : Int} (ha : -2147483648 ≤ a) (ha2 : a < 2147483648) : qJ G (mLw iLH) room_1 (LF G) 33 (lawL i) [vI a] m cc cs := by
  by_cases h0 : a < 0
  · exact j_tableOut (tgt := 1786) rfl ha ha2 (Or.inl h0) (by decide) (kk m cc cs h (by omega) (by omega))
  by_cases h1 : 40 < a
  · exact j_tableOut (tgt := 1786) rfl ha ha2 (Or.inr h1) (by decide) (kk m cc cs h (by omega) (by omega))
  obtain ⟨k, hk⟩ : ∃ k : Nat, a = (k : Int) := ⟨a.toNat, by omega⟩
  have h41 : k < 41 := by omega
  clear ha ha2 h0 h1
  subst hk
  match k, h41 with
  | 0, _ => exact j_tableIn (off := 179) (tgt := 212) rfl (by decide) (by decide) (by decide) (by decide) rfl (by decide) (lc_0 hT hL hi hj h hc hs kk)
  | 1, _ => exact j_tableIn (off := 212) (tgt := 245) rfl (by decide) (by decide) (by decide) (by decide) rfl (by decide) (lc_1 hT hL hi hj h hc hs kk)
  | 2, _ => exact j_tableIn (off := 235) (tgt := 268) rfl (by decide) (by decide) (by decide) (by decide) rfl (by decide) (lc_2 hT hL hi hj h hc hs kk)
  | 3, _ => exact j_tableIn (off := 258) (tgt := 291) rfl (by decide) (by decide) (by decide) (by decide) rfl (by decide) (lc_3 hT hL hi hj h hc hs kk)
  | 4, _ => exact j_tableIn (off := 301) (tgt := 334) rfl (by decide) (by decide) (by decide) (by decide) rfl (by decide) (lc_4 hT hL hi hj h hc hs kk)
  | 5, _ => exact j_tableIn (off := 354) (tgt := 387) rfl (by decide) (by decide) (by decide) (by decide) rfl (by decide) (lc_5 hT hL hi hj h hc hs kk)
  | 6, _ => exact j_tableIn (off := 397) (tgt := 430) rfl (by decide) (by decide) (by decide) (by decide) rfl (by decide) (lc_6 hT hL hi hj h hc hs kk)
  | 7, _ => exact j_tableIn (off := 440) (tgt := 473) rfl (by decide) (by decide) (by decide) (by decide) rfl (by decide) (lc_7 hT hL hi hj h hc hs kk)
  | 8, _ => exact j_tableIn (off := 453) (tgt := 486) rfl (by decide) (by decide) (by decide) (by decide) rfl (by decide) (lc_8 hT hL hi hj h hc hs kk)
  | 9, _ => exact j_tableIn (off := 506) (tgt := 539) rfl (by decide) (by decide) (by decide) (by decide) rfl (by decide) (lc_9 hT hL hi hj h hc hs kk)
  | 10, _ => exact j_tableIn (off := 549) (tgt := 582) rfl (by decide) (by decide) (by decide) (by decide) rfl (by decide) (lc_10 hT hL hi hj h hc hs kk)
  | 11, _ => exact j_tableIn (off := 582) (tgt := 615) rfl (by decide) (by decide) (by decide) (by decide) rfl (by decide) (lc_11 hT hL hi hj h hc hs kk)
  | 12, _ => exact j_tableIn (off := 615) (tgt := 648) rfl (by decide) (by decide) (by decide) (by decide) rfl (by decide) (lc_12 hT hL hi hj h hc hs kk)
  | 13, _ => exact j_tableIn (off := 648) (tgt := 681) rfl (by decide) (by decide) (by decide) (by decide) rfl (by decide) (lc_13 hT hL hi hj h hc hs kk)
  | 14, _ => exact j_tableIn (off := 671) (tgt := 704) rfl (by decide) (by decide) (by decide) (by decide) rfl (by decide) (lc_14 hT hL hi hj h hc hs kk)
  | 15, _ => exact j_tableIn (off := 714) (tgt := 747) rfl (by decide) (by decide) (by decide) (by decide) rfl (by decide) (lc_15 hT hL hi hj h hc hs kk)
  | 16, _ => exact j_tableIn (off := 757) (tgt := 790) rfl (by decide) (by decide) (by decide) (by decide) rfl (by decide) (lc_16 hT hL hi hj h hc hs kk)
  | 17, _ => exact j_tableIn (off := 780) (tgt := 813) rfl (by decide) (by decide) (by decide) (by decide) rfl (by decide) (lc_17 hT hL hi hj h hc hs kk)
  | 18, _ => exact j_tableIn (off := 813) (tgt := 846) rfl (by decide) (by decide) (by decide) (by decide) rfl (by decide) (lc_18 hT hL hi hj h hc hs kk)
  | 19, _ => exact j_tableIn (off := 866) (tgt := 899) rfl (by decide) (by decide) (by decide) (by decide) rfl (by decide) (lc_19 hT hL hi hj h hc hs kk)
  | 20, _ => exact j_tableIn (off := 899) (tgt := 932) rfl (by decide) (by decide) (by decide) (by decide) rfl (by decide) (lc_20 hT hL hi hj h hc hs kk)
  | 21, _ => exact j_tableIn (off := 952) (tgt := 985) rfl (by decide) (by decide) (by decide) (by decide) rfl (by decide) (lc_21 hT hL hi hj h hc hs kk)
  | 22, _ => exact j_tableIn (off := 985) (tgt := 1018) rfl (by decide) (by decide) (by decide) (by decide) rfl (by decide) (lc_22 hT hL hi hj h hc hs kk)
  | 23, _ => exact j_tableIn (off := 1028) (tgt := 1061) rfl (by decide) (by decide) (by decide) (by decide) rfl (by decide) (lc_23 hT hL hi hj h hc hs kk)
  | 24, _ => exact j_tableIn (off := 1071) (tgt := 1104) rfl (by decide) (by decide) (by decide) (by decide) rfl (by decide) (lc_24 hT hL hi hj h hc hs kk)
  | 25, _ => exact j_tableIn (off := 1124) (tgt := 1157) rfl (by decide) (by decide) (by decide) (by decide) rfl (by decide) (lc_25 hT hL hi hj h hc hs kk)
  | 26, _ => exact j_tableIn (off := 1167) (tgt := 1200) rfl (by decide) (by decide) (by decide) (by decide) rfl (by decide) (lc_26 hT hL hi hj h hc hs kk)
  | 27, _ => exact j_tableIn (off := 1220) (tgt := 1253) rfl (by decide) (by decide) (by decide) (by decide) rfl (by decide) (lc_27 hT hL hi hj h hc hs kk)
  | 28, _ => exact j_tableIn (off := 1253) (tgt := 1286) rfl (by decide) (by decide) (by decide) (by decide) rfl (by decide) (lc_28 hT hL hi hj h hc hs kk)
  | 29, _ => exact j_tableIn (off := 1296) (tgt := 1329) rfl (by decide) (by decide) (by decide) (by decide) rfl (by decide) (lc_29 hT hL hi hj h hc hs kk)
  | 30, _ => exact j_tableIn (off := 1329) (tgt := 1362) rfl (by decide) (by decide) (by decide) (by decide) rfl (by decide) (lc_30 hT hL hi hj h hc hs kk)
  | 31, _ => exact j_tableIn (off := 1352) (tgt := 1385) rfl (by decide) (by decide) (by decide) (by decide) rfl (by decide) (lc_31 hT hL hi hj h hc hs kk)
  | 32, _ => exact j_tableIn (off := 1395) (tgt := 1428) rfl (by decide) (by decide) (by decide) (by decide) rfl (by decide) (lc_32 hT hL hi hj h hc hs kk)
  | 33, _ => exact j_tableIn (off := 1418) (tgt := 1451) rfl (by decide) (by decide) (by decide) (by decide) rfl (by decide) (lc_33 hT hL hi hj h hc hs kk)
  | 34, _ => exact j_tableIn (off := 1451) (tgt := 1484) rfl (by decide) (by decide) (by decide) (by decide) rfl (by decide) (lc_34 hT hL hi hj h hc hs kk)
  | 35, _ => exact j_tableIn (off := 1494) (tgt := 1527) rfl (by decide) (by decide) (by decide) (by decide) rfl (by decide) (lc_35 hT hL hi hj h hc hs kk)
  | 36, _ => exact j_tableIn (off := 1567) (tgt := 1600) rfl (by decide) (by decide) (by decide) (by decide) rfl (by decide) (lc_36 hT hL hi hj h hc hs kk)
  | 37, _ => exact j_tableIn (off := 1600) (tgt := 1633) rfl (by decide) (by decide) (by decide) (by decide) rfl (by decide) (lc_37 hT hL hi hj h hc hs kk)
  | 38, _ => exact j_tableIn (off := 1634) (tgt := 1667) rfl (by decide) (by decide) (by decide) (by decide) rfl (by decide) (lc_38 hT hL hi hj h hc hs kk)
  | 39, _ => exact j_tableIn (off := 1697) (tgt := 1730) rfl (by decide) (by decide) (by decide) (by decide) rfl (by decide) (lc_39 hT hL hi hj h hc hs kk)
  | 40, _ => exact j_tableIn (off := 1730) (tgt := 1763) rfl (by decide) (by decide) (by decide) (by decide) rfl (by decide) (lc_40 hT hL hi hj h hc hs kk)
  | k + 41, q => exact absurd q (by omega)
set_option maxRecDepth 20000 in
set_option maxHeartbeats 4000000 in
theorem law_loop {G : QW} (hT : TB G) (hL : G.oL 0 ≤ 3072) : ∀ (f n : Nat) (i : Int) (m : AM) (cc cs : Nat), n + f = 513 → i = 6 * (n : Int) → Inv m → cc ≤ 200 + 9 * n → cs ≤ 14000 + 235 * n → qJ G (mLw iLH) room_1 (LF G) 18 (lawL i) [] m cc cs := by
  intro f
  induction f with
  | zero =>
    intro n i m cc cs hn hi h hc hs
    refine j_iload_n rfl rfl ?_
    refine j_aloadO_n rfl rfl ?_
    refine j_olen rfl (by decide) (by omega) ?_
    refine j_bipush rfl (by decide) ?_
    refine j_isub rfl ?_
    refine j_icmp_gt (tgt := 1792) rfl (by decide) (by omega) (by omega) (by omega) (by omega) (fun _ => ?_) (fun q => False.elim (by omega))
    refine j_iconst rfl ?_
    exact j_law rfl (by omega) (by omega)
  | succ f ih =>
    intro n i m cc cs hn hi h hc hs
    refine j_iload_n rfl rfl ?_
    refine j_aloadO_n rfl rfl ?_
    refine j_olen rfl (by decide) (by omega) ?_
    refine j_bipush rfl (by decide) ?_
    refine j_isub rfl ?_
    refine j_icmp_gt (tgt := 1792) rfl (by decide) (by omega) (by omega) (by omega) (by omega) (fun _ => ?_) (fun q => ?_)
    · refine j_iconst rfl ?_
      exact j_law rfl (by omega) (by omega)
    · refine j_aloadO_n rfl rfl ?_
      refine j_iload_n rfl rfl ?_
      refine j_oald rfl (by decide) (by omega) (by omega) (by omega) ?_
      refine j_bipush rfl (by decide) ?_
      refine j_iand rfl ?_
      refine law_sw hT hL (by omega) (by omega) h (by omega) (by omega) (fun m2 c2 s2 h2 hc2 hs2 => ?_) (z_iand_rng _ _).1 (z_iand_rng _ _).2
      refine j_iinc rfl rfl (by decide) ?_
      refine j_goto (tgt := 18) rfl (by decide) ?_
      refine j_loc (ls' := lawL (i + 6)) rfl ?_
      exact ih (n + 1) (i + 6) m2 c2 s2 (by omega) (by omega) h2 (by omega) (by omega)
set_option maxRecDepth 20000 in
set_option maxHeartbeats 4000000 in
theorem law_body {G : QW} (hT : TB G) (hL : G.oL 0 ≤ 3072) : qJ G (mLw iLH) room_1 (LF G) 0 [(0, vO 0)] [] am0 0 0 := by
  have hz : mz am0 = 0 := rfl
  refine j_new (ci := 11) (q0 := (RX11, TX11, 20)) rfl rfl (by decide) rfl hin_X11 tyX11_ok dfX11 cl_L_7 insX11 iniX11 (by decide) (by decide) ?_
  rw [hz, am_at_e hz]
  refine j_mem (m' := nb0) rfl ?_
  refine j_dup rfl (Nat.ne_of_beq_eq_false rfl) ?_
  refine j_callI rfl okX11_init c_L_9 cq_X11_init rfl rfl (Nat.le_of_ble_eq_true rfl) (by decide) (by decide) ?_
  rintro vq mq ⟨e1, e2⟩
  rw [e1, e2]
  clear e1 e2
  simp only [Option.toList_none, List.nil_append]
  refine j_astore_n rfl (by decide) ?_
  have hz : mz nb23 = 86 := by decide +kernel
  refine j_new (ci := 12) (q0 := (RX12, TX12, 84)) rfl rfl (by decide) rfl hin_X12 tyX12_ok dfX12 cl_L_10 insX12 iniX12 (by decide) (by decide) ?_
  rw [hz, am_at_e hz]
  refine j_mem (m' := mo0) rfl ?_
  refine j_dup rfl (Nat.ne_of_beq_eq_false rfl) ?_
  refine j_callI rfl okX12_init c_L_12 cq_X12_init rfl rfl (Nat.le_of_ble_eq_true rfl) (by decide) (by decide) ?_
  rintro vq mq ⟨e1, e2⟩
  rw [e1, e2]
  clear e1 e2
  simp only [Option.toList_none, List.nil_append]
  refine j_astore_n rfl (by decide) ?_
  refine j_iconst rfl ?_
  refine j_istore_n rfl (by decide) ?_
  refine j_loc (ls' := lawL 0) rfl ?_
  exact law_loop hT hL 513 0 0 mo58 _ _ rfl rfl start_inv (by decide) (by decide)
theorem whole_start {p : Program} {e : Env} {s : State} {m : MethodId} {below : List Frame} {meth : Method} {c : Code} (l : Launch) {b L : Nat} {xs : Nat → Int32} (hL : L ≤ 3072) (C0 : lw_At p s m meth c b L xs) (hn : meth.name = "law") : W p l e room_1 s m #[Value.ref b] below meth c s.heap [] 0 0 (lw_Z below #[Value.ref b] s) (entryFrame m ([Value.ref b] : List Value).toArray 4) := by
  have C1 := C0
  obtain ⟨-, -, -, -, -, hts, hX, hbl, -, hgv⟩ := C1
  obtain ⟨G, rfl, hG, h0, hLL, hT, hQ⟩ := law_QT (l := l) hts hX hbl hgv
  exact law_enter dLH C0 hn hG h0 hQ (law_body hT (by rw [hLL]; exact hL))

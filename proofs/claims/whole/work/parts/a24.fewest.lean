theorem dead_orL {N : AM} {o : Nat} {S : ZS} (h : JC N o S) : mi N o 7 = orL S.fa 6 := by
  have h7 := h.2.2.2.2.2.2.1
  have h8 := h.2.2.2.2.2.2.2.1
  have h9 := h.2.2.2.2.2.2.2.2
  have hr := orL_rng S.fa 6
  refine bt_ext (by omega) (by omega) hr.1 hr.2 (fun i hi => ?_)
  rw [bt_orL _ 6 (by decide) i hi]
  by_cases c : i < 6
  · rw [h7 i c]
    exact decide_eq_decide.mpr ⟨fun q => ⟨c, q⟩, fun q => q.2⟩
  · rw [bt_hi h8 (show mi N o 7 < 2 ^ 6 by omega) (by decide) (by omega), decide_eq_false (fun q => c q.1)]
theorem pow8 {k : Nat} (h : k ≤ 8) : (2 : Int) ^ k ≤ 256 := by
  have : ∀ k : Fin 9, (2 : Int) ^ (k : Nat) ≤ 256 := by decide
  exact this ⟨k, by omega⟩
/-- whom a flight of a set kills -/
def zKl (W : ZW) (F : Int → Int → Nat → Int) (fs n : Int) : Nat → Int := fun j => if z_iand (z_ishr fs j) 1 = 1 then orL (zwFull W (F j) n).fa 6 else 0

set_option maxRecDepth 20000 in
set_option maxHeartbeats 4000000 in
theorem lp_fewestC {G : QW} {m : AM} {fs n what : Int} {Rp : Option Vl → AM → Prop} (h : QR m) (hn : 1 ≤ n ∧ n ≤ 200) (hfs1 : -2147483648 ≤ fs) (hfs2 : fs < 2147483648) (hexit : ∀ N, CU m N → QR N → (∀ j : Nat, (j : Int) < mi m 0 17 → mi N 58 j = zKl (wN m) (Fm m) fs n j) → qJ G mX11_fewest { frames := 6, cells := 0, slots := 0, locals := 60 * 6 } (qF G Rp 0 0) 93 [(0, vR 0), (1, vI fs), (2, vI n), (3, vI what)] [] N 0 0) : ∀ (c : Nat) (f : Int) (N : AM), CU m N → QR N → f + c = mi m 0 17 → 0 ≤ f → (∀ j : Nat, (j : Int) < f → mi N 58 j = zKl (wN m) (Fm m) fs n j) → qJ G mX11_fewest { frames := 6, cells := 0, slots := 0, locals := 60 * 6 } (qF G Rp 0 0) 29 [(0, vR 0), (1, vI fs), (2, vI n), (3, vI what), (4, vI f)] [] N 0 0 := by
  have h17 := h.i.s 0 17 0 8 (by decide)
  intro c
  induction c with
  | zero =>
    intro f N hC hQ hf hf0 hA
    have e17 : mi N 0 17 = mi m 0 17 := hC.1.2.2.1 0 17 (by unfold NQ; omega)
    have hS := hQ.s
    refine j_iload rfl rfl ?_
    refine j_aload_n rfl rfl ?_
    refine j_getI rfl f_X11_156 rfl (hS.lt (by decide)) (hS.k (by decide) (by decide)) ?_
    refine j_icmp_ge (tgt := 93) rfl (by decide) (by omega) (by omega) (by omega) (by omega) (fun hb9_1 => ?_) (fun hb9_1 => by exfalso; omega)
    refine j_loc (ls' := [(0, vR 0), (1, vI fs), (2, vI n), (3, vI what)]) rfl ?_
    exact hexit N hC hQ (fun j hj => hA j (by omega))
  | succ c ih =>
    intro f N hC hQ hf hf0 hA
    have e17 : mi N 0 17 = mi m 0 17 := hC.1.2.2.1 0 17 (by unfold NQ; omega)
    have hS := hQ.s
    have hI := hQ.i
    refine j_iload rfl rfl ?_
    refine j_aload_n rfl rfl ?_
    refine j_getI rfl f_X11_156 rfl (hS.lt (by decide)) (hS.k (by decide) (by decide)) ?_
    have u32_1 := hI.s 0 17 (0) 8 (by decide)
    rw [e17]
    refine j_icmp_ge (tgt := 93) rfl (by decide) (by omega) (by omega) (by omega) (by omega) (fun hb35_1 => ?_) (fun hb35_1 => ?_)
    · skip
      exfalso; omega
    · skip
      refine j_aload_n rfl rfl ?_
      refine j_getR (q := 58) rfl f_X11_84 rfl (hS.lt (by decide)) (hS.k (by decide) (by decide)) (hS.r (by decide)) ?_
      refine j_iload rfl rfl ?_
      refine j_iconst rfl ?_
      refine j_iast (n := 8) rfl (hS.lt (by decide)) (hS.k (by decide) (by decide)) (hS.n (by decide) (by decide)) (by omega) (by omega) (by first | decide | omega) ?_
      have hC1 : CU m (si N 58 f.toNat 0) := hC.cell (by unfold NQ; omega) (by decide) 0
      have hQ1 : QR (si N 58 f.toNat 0) := hQ.own (by decide) 0
      have hS := hQ1.s
      have hI := hQ1.i
      refine j_iload_n rfl rfl ?_
      refine j_iload rfl rfl ?_
      refine j_ishr rfl ?_
      have z49_1 := z_ishr_rng fs f
      refine j_iconst rfl ?_
      refine j_iand rfl ?_
      have z51_1 := z_iand_rng (z_ishr fs f) 1
      refine j_iconst rfl ?_
      refine j_icmp_ne (tgt := 87) rfl (by decide) (by omega) (by omega) (by omega) (by omega) (fun hb53_1 => ?_) (fun hb53_1 => ?_)
      · skip
        refine j_iinc rfl rfl (by decide) ?_
        refine j_goto (tgt := 29) rfl (by decide) ?_
        refine j_loc (ls' := [(0, vR 0), (1, vI fs), (2, vI n), (3, vI what), (4, vI (f + 1))]) rfl ?_
        refine ih (f + 1) _ hC1 hQ1 (by omega) (by omega) (fun j hj => ?_)
        by_cases c1 : j = f.toNat
        · rw [c1, mi_si_same _ _ _ (by decide) (by decide)]
          unfold zKl
          rw [show ((f.toNat : Nat) : Int) = f by omega, if_neg hb53_1]
        · rw [mi_si_ne _ _ (fun z => c1 z.2)]
          exact hA j (by omega)
      · skip
        refine j_aload_n rfl rfl ?_
        refine j_aload_n rfl rfl ?_
        refine j_getR (q := 40) rfl f_X11_72 rfl (hS.lt (by decide)) (hS.k (by decide) (by decide)) (hS.r (by decide)) ?_
        refine j_aload_n rfl rfl ?_
        refine j_getR (q := 4) rfl f_X11_24 rfl (hS.lt (by decide)) (hS.k (by decide) (by decide)) (hS.r (by decide)) ?_
        refine j_iload rfl rfl ?_
        refine j_aald (k := 18) (n := 8) (v := (fl m f)) rfl (hS.lt (by decide)) (hS.k (by decide) (by decide)) el18 (hS.n (by decide) (by decide)) (by omega) (by omega) (by decide) (by rw [hC1.1.2.1 4 _ (fun z => absurd z.1 (by decide))]; exact (h.flt (by omega) (by omega)).1.1) ?_
        refine j_iload_n rfl rfl ?_
        refine j_iconst rfl ?_
        refine j_callV (ci := 11) rfl okX11_fly c_X11_197 (ct_flyC h hC1 hQ1 (o := 40) (f := f) (by unfold sto; omega) (by omega) (by omega) (by omega) (by omega)) rfl rfl (hS.lt (by decide)) (hS.k (by decide) (by decide)) (by decide) rfl (Nat.le_of_ble_eq_true rfl) (by decide) (by decide) ?_
        rintro vq K ⟨e1, ⟨hT, hJ, -⟩, hC2, hQ2⟩
        rw [e1]
        clear e1
        simp only [Option.toList_some, Option.toList_none, List.cons_append, List.nil_append]
        have hS := hQ2.s
        have hI := hQ2.i
        rw [zwFly_0] at hJ
        have hd := dead_orL hJ
        have hd2 := hJ.2.2.2.2.2.2.2.2
        have hd3 := hJ.2.2.2.2.2.2.2.1
        refine j_aload_n rfl rfl ?_
        refine j_getR (q := 58) rfl f_X11_84 rfl (hS.lt (by decide)) (hS.k (by decide) (by decide)) (hS.r (by decide)) ?_
        refine j_iload rfl rfl ?_
        refine j_aload_n rfl rfl ?_
        refine j_getR (q := 40) rfl f_X11_72 rfl (hS.lt (by decide)) (hS.k (by decide) (by decide)) (hS.r (by decide)) ?_
        refine j_getI rfl f_X11_201 rfl (hS.lt (by decide)) (hS.k (by decide) (by decide)) ?_
        have u83_1 := mi_rng K 40 7
        refine j_iast (n := 8) rfl (hS.lt (by decide)) (hS.k (by decide) (by decide)) (hS.n (by decide) (by decide)) (by omega) (by omega) (by first | decide | omega) ?_
        refine j_iinc rfl rfl (by decide) ?_
        refine j_goto (tgt := 29) rfl (by decide) ?_
        refine j_loc (ls' := [(0, vR 0), (1, vI fs), (2, vI n), (3, vI what), (4, vI (f + 1))]) rfl ?_
        refine ih (f + 1) _ (hC2.cell (by unfold NQ; omega) (by decide) _) (hQ2.own (by decide) _) (by omega) (by omega) (fun j hj => ?_)
        by_cases c1 : j = f.toNat
        · rw [c1, mi_si_same _ _ _ (by omega) (by omega), hd]
          unfold zKl
          rw [show ((f.toNat : Nat) : Int) = f by omega, if_pos hb53_1]
          rfl
        · rw [mi_si_ne _ _ (fun z => c1 z.2), hT.cel (by unfold tcl; omega), mi_si_ne _ _ (fun z => c1 z.2)]
          exact hA j (by omega)

/-- the fewest flights -/
def zFw (W : ZW) (F : Int → Int → Nat → Int) (nf fs n : Int) : Int := ffO (zKl W F fs n) nf fs (kbG (zKl W F fs n) fs nf.toNat) nf.toNat 0
theorem ffI_cg {g g' : Nat → Int} {F bits dead size : Int} (hF : 0 ≤ F) (h : ∀ j : Nat, (j : Int) < F → g j = g' j) : ∀ (c : Nat) (s : Int), ffI g F bits dead size c s = ffI g' F bits dead size c s := by
  intro c
  induction c with
  | zero => intro s; rfl
  | succ c ih =>
    intro s
    unfold ffI
    rw [kbG_cg F.toNat (fun j hj => h j (by omega)), ih]
theorem ffO_cg {g g' : Nat → Int} {F bits dead : Int} (hF : 0 ≤ F) (h : ∀ j : Nat, (j : Int) < F → g j = g' j) : ∀ (c : Nat) (z : Int), ffO g F bits dead c z = ffO g' F bits dead c z := by
  intro c
  induction c with
  | zero => intro z; rfl
  | succ c ih =>
    intro z
    unfold ffO
    rw [ffI_cg hF h, ih]

set_option maxRecDepth 20000 in
set_option maxHeartbeats 4000000 in
/-- fewest() of the class -/
theorem cr_fewest {G : QW} {m : AM} {fs n what : Int} (h : QR m) (hfs1 : -2147483648 ≤ fs) (hfs2 : fs < 2147483648) (hn1 : -2147483648 ≤ n) (hn2 : n < 2147483648) (hwhat1 : -2147483648 ≤ what) (hwhat2 : what < 2147483648) : qM G mX11_fewest 6 0 0 [vR 0, vI fs, vI n, vI what] m (fun r N2 => (((0 ≤ fs ∧ z_ishr fs (mi m 0 17) = 0) ∧ (1 ≤ n ∧ n ≤ 200) ∧ 0 ≤ what ∧ what ≤ 1) → CU m N2 ∧ QR N2 ∧ r = some (vI (if what = 0 then bcX (zFw (wN m) (Fm m) (mi m 0 17) fs n) else zFw (wN m) (Fm m) (mi m 0 17) fs n))) ∧ (¬ ((0 ≤ fs ∧ z_ishr fs (mi m 0 17) = 0) ∧ (1 ≤ n ∧ n ≤ 200) ∧ 0 ≤ what ∧ what ≤ 1) → r = some (vI (-1)) ∧ N2 = m)) := by
  have hS := h.s
  have hI := h.i
  have h17 := hI.s 0 17 0 8 (by decide)
  refine qM.intro okX11_fewest (Nat.le_of_ble_eq_true rfl) ?_
  refine j_aload_n rfl rfl ?_
  refine j_iload_n rfl rfl ?_
  refine j_callV (ci := 11) rfl okX11_areFlights c_X11_301 (ct_X11_areFlights hS hI (by omega) (by omega)) rfl rfl (hS.lt (by decide)) (hS.k (by decide) (by decide)) (by decide) rfl (Nat.le_of_ble_eq_true rfl) (by decide) (by decide) ?_
  rintro vq mq ⟨e1, e2⟩
  rw [e1, e2]
  clear e1 e2
  simp only [Option.toList_some, Option.toList_none, List.cons_append, List.nil_append]
  have w1 := hI.s 0 17 (0) 8 (by decide)
  refine j_bif_eq (tgt := 24) rfl (by decide) (fun hb5_1 => ?_) (fun hb5_1 => ?_)
  · skip
    refine j_iconst rfl ?_
    refine j_iret rfl rfl ?_ rfl (Nat.le_refl _)
    exact ⟨fun z => by exfalso; exact hb5_1 z.1, fun _ => ⟨rfl, rfl⟩⟩
  · skip
    refine j_iload_n rfl rfl ?_
    refine j_callS (As := [_]) rfl okX11_isTicks c_X11_194 (ct_X11_isTicks (by omega) (by omega)) rfl rfl (Nat.le_of_ble_eq_true rfl) (by decide) (by decide) ?_
    rintro vq mq ⟨e1, e2⟩
    rw [e1, e2]
    clear e1 e2
    simp only [Option.toList_some, Option.toList_none, List.cons_append, List.nil_append]
    refine j_bif_eq (tgt := 24) rfl (by decide) (fun hb12_1 => ?_) (fun hb12_1 => ?_)
    · skip
      refine j_iconst rfl ?_
      refine j_iret rfl rfl ?_ rfl (Nat.le_refl _)
      exact ⟨fun z => by exfalso; exact hb12_1 z.2.1, fun _ => ⟨rfl, rfl⟩⟩
    · skip
      refine j_iload_n rfl rfl ?_
      refine j_if_lt (tgt := 24) rfl (by decide) (by omega) (by omega) (fun hb16_1 => ?_) (fun hb16_1 => ?_)
      · skip
        refine j_iconst rfl ?_
        refine j_iret rfl rfl ?_ rfl (Nat.le_refl _)
        exact ⟨fun z => by exfalso; omega, fun _ => ⟨rfl, rfl⟩⟩
      · skip
        refine j_iload_n rfl rfl ?_
        refine j_iconst rfl ?_
        refine j_icmp_le (tgt := 26) rfl (by decide) (by omega) (by omega) (by omega) (by omega) (fun hb21_1 => ?_) (fun hb21_1 => ?_)
        · skip
          refine j_iconst rfl ?_
          refine j_istore rfl (by decide) ?_
          refine j_loc (ls' := [(0, vR 0), (1, vI fs), (2, vI n), (3, vI what), (4, vI 0)]) rfl ?_
          refine lp_fewestC h (by omega) hfs1 hfs2 (fun N hC hQ hA => ?_) (mi m 0 17).toNat 0 m (CU.rf m) h (by omega) (by decide) (fun j hj => by omega)
          have hS := hQ.s
          have hI := hQ.i
          have e17 : mi N 0 17 = mi m 0 17 := hC.1.2.2.1 0 17 (by unfold NQ; omega)
          have hfs : 0 ≤ fs ∧ fs < 256 := ⟨hb5_1.1, by have q := shr_zero hb5_1.1 hfs2 (k := (mi m 0 17).toNat) (by omega) (by rw [show (((mi m 0 17).toNat : Nat) : Int) = mi m 0 17 by omega]; exact hb5_1.2); have q2 := pow8 (k := (mi m 0 17).toNat) (by omega); omega⟩
          refine j_aload_n rfl rfl ?_
          refine j_iload_n rfl rfl ?_
          refine j_aload_n rfl rfl ?_
          refine j_iload_n rfl rfl ?_
          refine j_callV (ci := 11) rfl okX11_killedBy c_X11_311 (ct_killedBy hS hI (by omega)) rfl rfl (hS.lt (by decide)) (hS.k (by decide) (by decide)) (by decide) rfl (Nat.le_of_ble_eq_true rfl) (by decide) (by decide) ?_
          rintro vq mq ⟨e1, e2⟩
          rw [e1, e2]
          clear e1 e2
          simp only [Option.toList_some, Option.toList_none, List.cons_append, List.nil_append]
          have hkb := kbG_rng (mi N 58) fs (mi N 0 17).toNat
          refine j_callV (ci := 11) rfl okX11_fewestFor c_X11_314 (ct_fewestFor hS hI hfs (by omega)) rfl rfl (hS.lt (by decide)) (hS.k (by decide) (by decide)) (by decide) rfl (Nat.le_of_ble_eq_true rfl) (by decide) (by decide) ?_
          rintro vq mq ⟨e1, e2⟩
          rw [e1, e2]
          clear e1 e2
          simp only [Option.toList_some, Option.toList_none, List.cons_append, List.nil_append]
          rw [e17, kbG_cg (g' := zKl (wN m) (Fm m) fs n) _ (fun j hj => hA j (by omega)), ffO_cg (g' := zKl (wN m) (Fm m) fs n) (by omega) hA]
          rw [show ffO (zKl (wN m) (Fm m) fs n) (mi m 0 17) fs (kbG (zKl (wN m) (Fm m) fs n) fs (mi m 0 17).toNat) (mi m 0 17).toNat 0 = zFw (wN m) (Fm m) (mi m 0 17) fs n from rfl]
          have hz : 0 ≤ zFw (wN m) (Fm m) (mi m 0 17) fs n ∧ zFw (wN m) (Fm m) (mi m 0 17) fs n < 256 := ffO_rng hfs _ _
          refine j_istore rfl (by decide) ?_
          refine j_iload_n rfl rfl ?_
          refine j_if_ne (tgt := 117) rfl (by decide) (by omega) (by omega) (fun hb106_1 => ?_) (fun hb106_1 => ?_)
          · skip
            refine j_iload rfl rfl ?_
            refine j_iret rfl rfl ?_ rfl (Nat.le_refl _)
            exact ⟨fun _ => ⟨hC, hQ, by rw [if_neg (by omega)]⟩, fun z => absurd ⟨hb5_1, hb12_1, by omega, by omega⟩ z⟩
          · skip
            refine j_iload rfl rfl ?_
            refine j_callS (As := [_]) rfl okJ6_bitCount_0f7a4 c_X11_204 (ct_bitCount hz.1 hz.2) rfl rfl (Nat.le_of_ble_eq_true rfl) (by decide) (by decide) ?_
            rintro vq mq ⟨e1, e2⟩
            rw [e1, e2]
            clear e1 e2
            simp only [Option.toList_some, Option.toList_none, List.cons_append, List.nil_append]
            have hbc := bcX_r8 hz.1 hz.2
            refine j_goto (tgt := 119) rfl (by decide) ?_
            refine j_iret rfl rfl ?_ rfl (Nat.le_refl _)
            exact ⟨fun _ => ⟨hC, hQ, by rw [if_pos (by omega)]⟩, fun z => absurd ⟨hb5_1, hb12_1, by omega, by omega⟩ z⟩
        · skip
          refine j_iconst rfl ?_
          refine j_iret rfl rfl ?_ rfl (Nat.le_refl _)
          exact ⟨fun z => by exfalso; omega, fun _ => ⟨rfl, rfl⟩⟩


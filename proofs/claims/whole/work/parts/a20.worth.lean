/-- what a flight of the class is, by its number -/
def Fm (m : AM) : Int → Int → Nat → Int := fun f => feF m (fl m f)
/-- the flights of a set in which a box dies and its twin doesn't -/
def zWo (W : ZW) (F : Int → Int → Nat → Int) (x t fs n : Int) : Nat → Int → Int → Int
  | 0, _, s => s
  | c + 1, f, s => zWo W F x t fs n c (f + 1) (if z_iand (z_ishr fs f) 1 = 1 then s + (if (zwFull W (F f) n).fa x.toNat ≠ 0 ∧ (zwFull W (F f) n).fa t.toNat = 0 then 1 else 0) else s)
theorem zWo_1 {W : ZW} {F : Int → Int → Nat → Int} {x t fs n : Int} {c : Nat} {f s : Int} (h : z_iand (z_ishr fs f) 1 = 1) : zWo W F x t fs n (c + 1) f s = zWo W F x t fs n c (f + 1) (s + (if (zwFull W (F f) n).fa x.toNat ≠ 0 ∧ (zwFull W (F f) n).fa t.toNat = 0 then 1 else 0)) := by
  show zWo W F x t fs n c (f + 1) (if z_iand (z_ishr fs f) 1 = 1 then _ else _) = _
  rw [if_pos h]
theorem zWo_0 {W : ZW} {F : Int → Int → Nat → Int} {x t fs n : Int} {c : Nat} {f s : Int} (h : z_iand (z_ishr fs f) 1 ≠ 1) : zWo W F x t fs n (c + 1) f s = zWo W F x t fs n c (f + 1) s := by
  show zWo W F x t fs n c (f + 1) (if z_iand (z_ishr fs f) 1 = 1 then _ else _) = _
  rw [if_neg h]

set_option maxRecDepth 20000 in
set_option maxHeartbeats 4000000 in
theorem lp_worthC {G : QW} {m : AM} {t fs n x E : Int} {Rp : Option Vl → AM → Prop} (h : QR m) (ht : 0 ≤ t ∧ t ≤ 5) (hx : 0 ≤ x ∧ x ≤ 5) (hn : 1 ≤ n ∧ n ≤ 200) (hfs1 : -2147483648 ≤ fs) (hfs2 : fs < 2147483648) (hfin : ∀ N, CU m N → QR N → Rp (some (vI E)) N) : ∀ (c : Nat) (f s : Int) (N : AM), CU m N → QR N → f + c = mi m 0 17 → 0 ≤ f → (0 ≤ s ∧ s ≤ f) → zWo (wN m) (Fm m) x t fs n c f s = E → qJ G mX11_worth { frames := 6, cells := 0, slots := 0, locals := 60 * 6 } (qF G Rp 0 0) 50 [(0, vR 0), (1, vI t), (2, vI fs), (3, vI n), (4, vI x), (5, vI s), (6, vI f)] [] N 0 0 := by
  have h17 := h.i.s 0 17 0 8 (by decide)
  intro c
  induction c with
  | zero =>
    intro f s N hC hQ hf hf0 hs hE
    have e17 : mi N 0 17 = mi m 0 17 := hC.1.2.2.1 0 17 (by unfold NQ; omega)
    have hS := hQ.s
    have e : s = E := hE
    subst e
    refine j_iload rfl rfl ?_
    refine j_aload_n rfl rfl ?_
    refine j_getI rfl f_X11_156 rfl (hS.lt (by decide)) (hS.k (by decide) (by decide)) ?_
    refine j_icmp_ge (tgt := 127) rfl (by decide) (by omega) (by omega) (by omega) (by omega) (fun hb9_1 => ?_) (fun hb9_1 => by exfalso; omega)
    refine j_iload rfl rfl ?_
    refine j_iret rfl rfl ?_ rfl (Nat.le_refl _)
    exact hfin N hC hQ
  | succ c ih =>
    intro f s N hC hQ hf hf0 hs hE
    have e17 : mi N 0 17 = mi m 0 17 := hC.1.2.2.1 0 17 (by unfold NQ; omega)
    have hS := hQ.s
    have hI := hQ.i
    refine j_iload rfl rfl ?_
    refine j_aload_n rfl rfl ?_
    refine j_getI rfl f_X11_156 rfl (hS.lt (by decide)) (hS.k (by decide) (by decide)) ?_
    have u53_1 := hI.s 0 17 (0) 8 (by decide)
    rw [e17]
    refine j_icmp_ge (tgt := 127) rfl (by decide) (by omega) (by omega) (by omega) (by omega) (fun hb56_1 => ?_) (fun hb56_1 => ?_)
    · skip
      exfalso; omega
    · skip
      refine j_iload_n rfl rfl ?_
      refine j_iload rfl rfl ?_
      refine j_ishr rfl ?_
      have z62_1 := z_ishr_rng fs f
      refine j_iconst rfl ?_
      refine j_iand rfl ?_
      have z64_1 := z_iand_rng (z_ishr fs f) 1
      refine j_iconst rfl ?_
      refine j_icmp_ne (tgt := 121) rfl (by decide) (by omega) (by omega) (by omega) (by omega) (fun hb66_1 => ?_) (fun hb66_1 => ?_)
      · skip
        refine j_iinc rfl rfl (by decide) ?_
        refine j_goto (tgt := 50) rfl (by decide) ?_
        refine j_loc (ls' := [(0, vR 0), (1, vI t), (2, vI fs), (3, vI n), (4, vI x), (5, vI s), (6, vI (f + 1))]) rfl ?_
        exact ih (f + 1) s N hC hQ (by omega) (by omega) (by omega) (by rw [zWo_0 (by omega)] at hE; exact hE)
      · skip
        refine j_aload_n rfl rfl ?_
        refine j_aload_n rfl rfl ?_
        refine j_getR (q := 40) rfl f_X11_72 rfl (hS.lt (by decide)) (hS.k (by decide) (by decide)) (hS.r (by decide)) ?_
        refine j_aload_n rfl rfl ?_
        refine j_getR (q := 4) rfl f_X11_24 rfl (hS.lt (by decide)) (hS.k (by decide) (by decide)) (hS.r (by decide)) ?_
        refine j_iload rfl rfl ?_
        refine j_aald (k := 18) (n := 8) (v := (fl m f)) rfl (hS.lt (by decide)) (hS.k (by decide) (by decide)) el18 (hS.n (by decide) (by decide)) (by omega) (by omega) (by decide) (by rw [hC.1.2.1 4 _ (fun z => absurd z.1 (by decide))]; exact (h.flt (by omega) (by omega)).1.1) ?_
        refine j_iload_n rfl rfl ?_
        refine j_iconst rfl ?_
        refine j_callV (ci := 11) rfl okX11_fly c_X11_197 (ct_flyC h hC hQ (o := 40) (f := f) (by unfold sto; omega) (by omega) (by omega) (by omega) (by omega)) rfl rfl (hS.lt (by decide)) (hS.k (by decide) (by decide)) (by decide) rfl (Nat.le_of_ble_eq_true rfl) (by decide) (by decide) ?_
        rintro vq K ⟨e1, ⟨hT, hJ, -⟩, hC2, hQ2⟩
        rw [e1]
        clear e1
        simp only [Option.toList_some, Option.toList_none, List.cons_append, List.nil_append]
        have hS := hQ2.s
        have hI := hQ2.i
        rw [zwFly_0] at hJ
        change JC K 40 (zwFull (wN m) (Fm m f) n) at hJ
        have ex : mi K 43 x.toNat = (zwFull (wN m) (Fm m f) n).fa x.toNat := hJ.2.2.1 x.toNat (by omega)
        have et : mi K 43 t.toNat = (zwFull (wN m) (Fm m f) n).fa t.toNat := hJ.2.2.1 t.toNat (by omega)
        have exr := mi_rng K 43 x.toNat
        have etr := mi_rng K 43 t.toNat
        rw [ex] at exr
        rw [et] at etr
        refine j_iload rfl rfl ?_
        refine j_aload_n rfl rfl ?_
        refine j_getR (q := 40) rfl f_X11_72 rfl (hS.lt (by decide)) (hS.k (by decide) (by decide)) (hS.r (by decide)) ?_
        refine j_getR (q := 43) rfl f_X11_210 rfl (hS.lt (by decide)) (hS.k (by decide) (by decide)) (hS.r (by decide)) ?_
        refine j_iload rfl rfl ?_
        refine j_iald (n := 6) rfl (hS.lt (by decide)) (hS.k (by decide) (by decide)) (hS.n (by decide) (by decide)) (by omega) (by omega) (by decide) ?_
        have u97_1 := mi_rng K 43 x.toNat
        rw [ex]
        refine j_if_eq (tgt := 117) rfl (by decide) (by omega) (by omega) (fun hb98_1 => ?_) (fun hb98_1 => ?_)
        · skip
          refine j_iconst rfl ?_
          refine j_iadd rfl ?_
          refine j_istore rfl (by decide) ?_
          refine j_iinc rfl rfl (by decide) ?_
          refine j_goto (tgt := 50) rfl (by decide) ?_
          refine j_loc (ls' := [(0, vR 0), (1, vI t), (2, vI fs), (3, vI n), (4, vI x), (5, vI (s + 0)), (6, vI (f + 1))]) rfl ?_
          rw [zWo_1 (by omega)] at hE
          rw [if_neg (by omega)] at hE
          exact ih (f + 1) _ K hC2 hQ2 (by omega) (by omega) (by omega) hE
        · skip
          refine j_aload_n rfl rfl ?_
          refine j_getR (q := 40) rfl f_X11_72 rfl (hS.lt (by decide)) (hS.k (by decide) (by decide)) (hS.r (by decide)) ?_
          refine j_getR (q := 43) rfl f_X11_210 rfl (hS.lt (by decide)) (hS.k (by decide) (by decide)) (hS.r (by decide)) ?_
          refine j_iload_n rfl rfl ?_
          refine j_iald (n := 6) rfl (hS.lt (by decide)) (hS.k (by decide) (by decide)) (hS.n (by decide) (by decide)) (by omega) (by omega) (by decide) ?_
          have u109_1 := mi_rng K 43 t.toNat
          rw [et]
          refine j_if_ne (tgt := 117) rfl (by decide) (by omega) (by omega) (fun hb110_1 => ?_) (fun hb110_1 => ?_)
          · skip
            refine j_iconst rfl ?_
            refine j_iadd rfl ?_
            refine j_istore rfl (by decide) ?_
            refine j_iinc rfl rfl (by decide) ?_
            refine j_goto (tgt := 50) rfl (by decide) ?_
            refine j_loc (ls' := [(0, vR 0), (1, vI t), (2, vI fs), (3, vI n), (4, vI x), (5, vI (s + 0)), (6, vI (f + 1))]) rfl ?_
            rw [zWo_1 (by omega)] at hE
            rw [if_neg (by omega)] at hE
            exact ih (f + 1) _ K hC2 hQ2 (by omega) (by omega) (by omega) hE
          · skip
            refine j_iconst rfl ?_
            refine j_goto (tgt := 118) rfl (by decide) ?_
            refine j_iadd rfl ?_
            refine j_istore rfl (by decide) ?_
            refine j_iinc rfl rfl (by decide) ?_
            refine j_goto (tgt := 50) rfl (by decide) ?_
            refine j_loc (ls' := [(0, vR 0), (1, vI t), (2, vI fs), (3, vI n), (4, vI x), (5, vI (s + 1)), (6, vI (f + 1))]) rfl ?_
            rw [zWo_1 (by omega)] at hE
            rw [if_pos ⟨by omega, by omega⟩] at hE
            exact ih (f + 1) _ K hC2 hQ2 (by omega) (by omega) (by omega) hE

set_option maxRecDepth 20000 in
set_option maxHeartbeats 4000000 in
/-- worth() of the class -/
theorem cr_worth {G : QW} {m : AM} {t fs n : Int} (h : QR m) (hX : HX m) (ht1 : -2147483648 ≤ t) (ht2 : t < 2147483648) (hfs1 : -2147483648 ≤ fs) (hfs2 : fs < 2147483648) (hn1 : -2147483648 ≤ n) (hn2 : n < 2147483648) : qM G mX11_worth 6 0 0 [vR 0, vI t, vI fs, vI n] m (fun r N2 => ((((0 ≤ t ∧ t < mi m 0 16) ∧ mi m (bx m t) 1 = 1) ∧ (0 ≤ fs ∧ z_ishr fs (mi m 0 17) = 0) ∧ 1 ≤ n ∧ n ≤ 200) → (mi m (bx m t) 5 < 0 → r = some (vI (-5)) ∧ N2 = m) ∧ (0 ≤ mi m (bx m t) 5 → CU m N2 ∧ QR N2 ∧ r = some (vI (zWo (wN m) (Fm m) (mi m (bx m t) 5) t fs n (mi m 0 17).toNat 0 0)))) ∧ (¬ (((0 ≤ t ∧ t < mi m 0 16) ∧ mi m (bx m t) 1 = 1) ∧ (0 ≤ fs ∧ z_ishr fs (mi m 0 17) = 0) ∧ 1 ≤ n ∧ n ≤ 200) → r = some (vI (-1)) ∧ N2 = m)) := by
  have hS := h.s
  have hI := h.i
  have h17 := hI.s 0 17 0 8 (by decide)
  have h16 := hI.s 0 16 0 6 (by decide)
  refine qM.intro okX11_worth (Nat.le_of_ble_eq_true rfl) ?_
  refine j_aload_n rfl rfl ?_
  refine j_iload_n rfl rfl ?_
  refine j_callV (ci := 11) rfl okX11_isTwin c_X11_295 (ct_X11_isTwin hS hI (by omega) (by omega) hX) rfl rfl (hS.lt (by decide)) (hS.k (by decide) (by decide)) (by decide) rfl (Nat.le_of_ble_eq_true rfl) (by decide) (by decide) ?_
  rintro vq mq ⟨e1, e2⟩
  rw [e1, e2]
  clear e1 e2
  simp only [Option.toList_some, Option.toList_none, List.cons_append, List.nil_append]
  have w1 := hI.s 0 16 (0) 6 (by decide)
  refine j_bif_eq (tgt := 23) rfl (by decide) (fun hb5_1 => ?_) (fun hb5_1 => ?_)
  · skip
    refine j_iconst rfl ?_
    refine j_iret rfl rfl ?_ rfl (Nat.le_refl _)
    exact ⟨fun z => absurd z.1 hb5_1, fun _ => ⟨rfl, rfl⟩⟩
  · skip
    refine j_aload_n rfl rfl ?_
    refine j_iload_n rfl rfl ?_
    refine j_callV (ci := 11) rfl okX11_areFlights c_X11_301 (ct_X11_areFlights hS hI (by omega) (by omega)) rfl rfl (hS.lt (by decide)) (hS.k (by decide) (by decide)) (by decide) rfl (Nat.le_of_ble_eq_true rfl) (by decide) (by decide) ?_
    rintro vq mq ⟨e1, e2⟩
    rw [e1, e2]
    clear e1 e2
    simp only [Option.toList_some, Option.toList_none, List.cons_append, List.nil_append]
    have w2 := hI.s 0 17 (0) 8 (by decide)
    refine j_bif_eq (tgt := 23) rfl (by decide) (fun hb13_1 => ?_) (fun hb13_1 => ?_)
    · skip
      refine j_iconst rfl ?_
      refine j_iret rfl rfl ?_ rfl (Nat.le_refl _)
      exact ⟨fun z => absurd z.2.1 hb13_1, fun _ => ⟨rfl, rfl⟩⟩
    · skip
      refine j_iload_n rfl rfl ?_
      refine j_callS (As := [_]) rfl okX11_isTicks c_X11_194 (ct_X11_isTicks (by omega) (by omega)) rfl rfl (Nat.le_of_ble_eq_true rfl) (by decide) (by decide) ?_
      rintro vq mq ⟨e1, e2⟩
      rw [e1, e2]
      clear e1 e2
      simp only [Option.toList_some, Option.toList_none, List.cons_append, List.nil_append]
      refine j_bif_ne (tgt := 25) rfl (by decide) (fun hb20_1 => ?_) (fun hb20_1 => ?_)
      · skip
        refine j_aload_n rfl rfl ?_
        refine j_getR (q := 3) rfl f_X11_18 rfl (hS.lt (by decide)) (hS.k (by decide) (by decide)) (hS.r (by decide)) ?_
        refine j_iload_n rfl rfl ?_
        have hXt := hX t (by omega) (by omega)
        have hXt2 := hXt.2.2.2.2
        refine j_aald (k := 17) (n := 6) (v := (bx m t)) rfl (hS.lt (by decide)) (hS.k (by decide) (by decide)) el17 (hS.n (by decide) (by decide)) (by omega) (by omega) (by decide) hXt.1 ?_
        refine j_getI rfl f_X11_298 rfl hXt.2.1.1 hXt.2.1.2.1 ?_
        have u31_1 := mi_rng m (bx m t) 5
        refine j_istore rfl (by decide) ?_
        refine j_iload rfl rfl ?_
        refine j_if_ge (tgt := 44) rfl (by decide) (by omega) (by omega) (fun hb38_1 => ?_) (fun hb38_1 => ?_)
        · skip
          refine j_iconst rfl ?_
          refine j_istore rfl (by decide) ?_
          refine j_iconst rfl ?_
          refine j_istore rfl (by decide) ?_
          refine j_loc (ls' := [(0, vR 0), (1, vI t), (2, vI fs), (3, vI n), (4, vI (mi m (bx m t) 5)), (5, vI 0), (6, vI 0)]) rfl ?_
          refine lp_worthC h (by omega) (by omega) (by omega) hfs1 hfs2 (fun N hC hQ => ?_) (mi m 0 17).toNat 0 0 m (CU.rf m) h (by omega) (by decide) (by decide) rfl
          exact ⟨fun _ => ⟨fun z => by exfalso; omega, fun _ => ⟨hC, hQ, rfl⟩⟩, fun z => absurd ⟨hb5_1, hb13_1, hb20_1⟩ z⟩
        · skip
          refine j_bipush rfl (by decide) ?_
          refine j_iret rfl rfl ?_ rfl (Nat.le_refl _)
          exact ⟨fun _ => ⟨fun _ => ⟨rfl, rfl⟩, fun z => by exfalso; omega⟩, fun z => absurd ⟨hb5_1, hb13_1, hb20_1⟩ z⟩
      · skip
        refine j_iconst rfl ?_
        refine j_iret rfl rfl ?_ rfl (Nat.le_refl _)
        exact ⟨fun z => absurd z.2.2 hb20_1, fun _ => ⟨rfl, rfl⟩⟩


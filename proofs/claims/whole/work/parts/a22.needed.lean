theorem zNd_y {W : ZW} {F : Int → Nat → Int} {b n : Int} {c : Nat} {t : Int} (h : zUn W.nb b (zwFull W F n) (zwFlyX W F n b t 0)) : zNd W F b n (c + 1) t = t := by
  show @ite Int (zUn W.nb b (zwFull W F n) (zwFlyX W F n b t 0)) (Classical.propDecidable _) t (zNd W F b n c (t - 1)) = t
  exact if_pos h
theorem zNd_n {W : ZW} {F : Int → Nat → Int} {b n : Int} {c : Nat} {t : Int} (h : ¬ zUn W.nb b (zwFull W F n) (zwFlyX W F n b t 0)) : zNd W F b n (c + 1) t = zNd W F b n c (t - 1) := by
  show @ite Int (zUn W.nb b (zwFull W F n) (zwFlyX W F n b t 0)) (Classical.propDecidable _) t (zNd W F b n c (t - 1)) = _
  exact if_neg h

set_option maxRecDepth 20000 in
set_option maxHeartbeats 4000000 in
theorem lp_neededC {G : QW} {m : AM} {b f n E : Int} {Rp : Option Vl → AM → Prop} (h : QR m) (hb : 0 ≤ b ∧ b ≤ 5) (hf : 0 ≤ f ∧ f < mi m 0 17) (hn : 1 ≤ n ∧ n ≤ 200) (hfin : ∀ N, CU m N → QR N → Rp (some (vI E)) N) : ∀ (c : Nat) (t : Int) (N : AM), JC N 32 (zwFull (wN m) (Fm m f) n) → CU m N → QR N → t + 1 = c → t ≤ 199 → zNd (wN m) (Fm m f) b n c t = E → qJ G mX11_needed { frames := 6, cells := 0, slots := 0, locals := 60 * 6 } (qF G Rp 0 0) 57 [(0, vR 0), (1, vI b), (2, vI f), (3, vI n), (4, vI t)] [] N 0 0 := by
  have h17 := h.i.s 0 17 0 8 (by decide)
  have h16 := h.i.s 0 16 0 6 (by decide)
  intro c
  induction c with
  | zero =>
    intro t N hP hC hQ ht ht2 hE
    have e : -2 = E := hE
    subst e
    refine j_iload rfl rfl ?_
    refine j_if_lt (tgt := 99) rfl (by decide) (by omega) (by omega) (fun hb59_1 => ?_) (fun hb59_1 => by exfalso; omega)
    refine j_bipush rfl (by decide) ?_
    refine j_iret rfl rfl ?_ rfl (Nat.le_refl _)
    exact hfin N hC hQ
  | succ c ih =>
    intro t N hP hC hQ ht ht2 hE
    have hS := hQ.s
    have hI := hQ.i
    refine j_iload rfl rfl ?_
    refine j_if_lt (tgt := 99) rfl (by decide) (by omega) (by omega) (fun hb59_1 => ?_) (fun hb59_1 => ?_)
    · skip
      exfalso; omega
    · skip
      refine j_aload_n rfl rfl ?_
      refine j_iload_n rfl rfl ?_
      refine j_iload rfl rfl ?_
      refine j_aload_n rfl rfl ?_
      refine j_getR (q := 4) rfl f_X11_24 rfl (hS.lt (by decide)) (hS.k (by decide) (by decide)) (hS.r (by decide)) ?_
      refine j_iload_n rfl rfl ?_
      refine j_aald (k := 18) (n := 8) (v := (fl m f)) rfl (hS.lt (by decide)) (hS.k (by decide) (by decide)) el18 (hS.n (by decide) (by decide)) (by omega) (by omega) (by decide) (by rw [hC.1.2.1 4 _ (fun z => absurd z.1 (by decide))]; exact (h.flt (by omega) (by omega)).1.1) ?_
      refine j_iload_n rfl rfl ?_
      refine j_iconst rfl ?_
      refine j_callV (ci := 11) rfl okX11_flyWithout c_X11_288 (ct_flyWithoutC h hC hQ (f := f) hf (by omega) (by omega) (by decide) (by omega) (by omega)) rfl rfl (hS.lt (by decide)) (hS.k (by decide) (by decide)) (by decide) rfl (Nat.le_of_ble_eq_true rfl) (by decide) (by decide) ?_
      rintro vq K ⟨e1, ⟨hT, hJ⟩, hC2, hQ2⟩
      rw [e1]
      clear e1
      simp only [Option.toList_some, Option.toList_none, List.cons_append, List.nil_append]
      have hS := hQ2.s
      have hI := hQ2.i
      have e16 : mi K 0 16 = mi m 0 16 := hC2.1.2.2.1 0 16 (by unfold NQ; omega)
      have h32 : JC K 32 (zwFull (wN m) (Fm m f) n) := hP.same (fun r j hr => hT.cel (by unfold tcl; omega) j)
      have hut := un_test h32 hJ (nb := mi m 0 16) (b := b) (by omega) (by omega)
      refine j_aload_n rfl rfl ?_
      refine j_callV (ci := 11) rfl okX11_unlikeBoxes c_X11_292 (ct_unlikeBoxes hS hI) rfl rfl (hS.lt (by decide)) (hS.k (by decide) (by decide)) (by decide) rfl (Nat.le_of_ble_eq_true rfl) (by decide) (by decide) ?_
      rintro vq mq ⟨e1, e2⟩
      rw [e1, e2]
      clear e1 e2
      simp only [Option.toList_some, Option.toList_none, List.cons_append, List.nil_append]
      rw [e16]
      have hor := orL_rng (uC K) (mi m 0 16).toNat
      refine j_iconst rfl ?_
      refine j_iload_n rfl rfl ?_
      refine j_ishl rfl ?_
      have z83_1 := z_ishl_rng 1 b
      refine j_iconst rfl ?_
      refine j_ixor rfl ?_
      have z85_1 := z_ixor_rng (z_ishl 1 b) (-1)
      refine j_iand rfl ?_
      have z86_1 := z_iand_rng (orL (uC K) (mi m 0 16).toNat) (z_ixor (z_ishl 1 b) (-1))
      refine j_if_eq (tgt := 93) rfl (by decide) (by omega) (by omega) (fun hb87_1 => ?_) (fun hb87_1 => ?_)
      · skip
        refine j_iinc rfl rfl (by decide) ?_
        refine j_goto (tgt := 57) rfl (by decide) ?_
        refine j_loc (ls' := [(0, vR 0), (1, vI b), (2, vI f), (3, vI n), (4, vI (t + (-1)))]) rfl ?_
        rw [show t + (-1) = t - 1 by omega]
        rw [zNd_n (fun z => hut.mpr (by rw [show mi m 0 16 = (wN m).nb from h.2.1.1]; exact z) hb87_1)] at hE
        exact ih (t - 1) K h32 hC2 hQ2 (by omega) (by omega) hE
      · skip
        refine j_iload rfl rfl ?_
        refine j_iret rfl rfl ?_ rfl (Nat.le_refl _)
        have z := hut.mp hb87_1
        rw [show mi m 0 16 = (wN m).nb from h.2.1.1] at z
        rw [zNd_y z] at hE
        rw [hE]
        exact hfin K hC2 hQ2

set_option maxRecDepth 20000 in
set_option maxHeartbeats 4000000 in
/-- needed() of the class -/
theorem cr_needed {G : QW} {m : AM} {b f n : Int} (h : QR m) (hb1 : -2147483648 ≤ b) (hb2 : b < 2147483648) (hf1 : -2147483648 ≤ f) (hf2 : f < 2147483648) (hn1 : -2147483648 ≤ n) (hn2 : n < 2147483648) : qM G mX11_needed 6 0 0 [vR 0, vI b, vI f, vI n] m (fun r N2 => (((0 ≤ b ∧ b < mi m 0 16) ∧ (0 ≤ f ∧ f < mi m 0 17) ∧ 1 ≤ n ∧ n ≤ 200) → (¬ rdO m b → r = some (vI (-2)) ∧ N2 = m) ∧ (rdO m b → CU m N2 ∧ QR N2 ∧ r = some (vI (zNd (wN m) (Fm m f) b n n.toNat (n - 1))))) ∧ (¬ ((0 ≤ b ∧ b < mi m 0 16) ∧ (0 ≤ f ∧ f < mi m 0 17) ∧ 1 ≤ n ∧ n ≤ 200) → r = some (vI (-1)) ∧ N2 = m)) := by
  have hS := h.s
  have hI := h.i
  have h17 := hI.s 0 17 0 8 (by decide)
  have h16 := hI.s 0 16 0 6 (by decide)
  have hK : ∀ b : Int, 0 ≤ b → b < mi m 0 16 → AgB m (wN m) b ∧ mi m (bx m b) 5 = mi m 90 b.toNat := fun b h0 h1 => h.2.1.2 b h0 (by rw [← h.2.1.1]; exact h1)
  refine qM.intro okX11_needed (Nat.le_of_ble_eq_true rfl) ?_
  refine j_aload_n rfl rfl ?_
  refine j_iload_n rfl rfl ?_
  refine j_callV (ci := 11) rfl okX11_isBox c_X11_119 (ct_X11_isBox hS hI (by omega) (by omega)) rfl rfl (hS.lt (by decide)) (hS.k (by decide) (by decide)) (by decide) rfl (Nat.le_of_ble_eq_true rfl) (by decide) (by decide) ?_
  rintro vq mq ⟨e1, e2⟩
  rw [e1, e2]
  clear e1 e2
  simp only [Option.toList_some, Option.toList_none, List.cons_append, List.nil_append]
  have w1 := hI.s 0 16 (0) 6 (by decide)
  refine j_bif_eq (tgt := 23) rfl (by decide) (fun hb5_1 => ?_) (fun hb5_1 => ?_)
  · skip
    refine j_iconst rfl ?_
    refine j_iret rfl rfl ?_ rfl (Nat.le_refl _)
    exact ⟨fun z => absurd z.1 hb5_1, fun _ => ⟨rfl, rfl⟩⟩
  · skip
    refine j_aload_n rfl rfl ?_
    refine j_iload_n rfl rfl ?_
    refine j_callV (ci := 11) rfl okX11_isFlight c_X11_191 (ct_X11_isFlight hS hI (by omega) (by omega)) rfl rfl (hS.lt (by decide)) (hS.k (by decide) (by decide)) (by decide) rfl (Nat.le_of_ble_eq_true rfl) (by decide) (by decide) ?_
    rintro vq mq ⟨e1, e2⟩
    rw [e1, e2]
    clear e1 e2
    simp only [Option.toList_some, Option.toList_none, List.cons_append, List.nil_append]
    have w2 := hI.s 0 17 (0) 8 (by decide)
    refine j_bif_eq (tgt := 23) rfl (by decide) (fun hb13_1 => ?_) (fun hb13_1 => ?_)
    · skip
      refine j_iconst rfl ?_
      refine j_iret rfl rfl ?_ rfl (Nat.le_refl _)
      exact ⟨fun z => absurd z.2.1 hb13_1, fun _ => ⟨rfl, rfl⟩⟩
    · skip
      refine j_iload_n rfl rfl ?_
      refine j_callS (As := [_]) rfl okX11_isTicks c_X11_194 (ct_X11_isTicks (by omega) (by omega)) rfl rfl (Nat.le_of_ble_eq_true rfl) (by decide) (by decide) ?_
      rintro vq mq ⟨e1, e2⟩
      rw [e1, e2]
      clear e1 e2
      simp only [Option.toList_some, Option.toList_none, List.cons_append, List.nil_append]
      refine j_bif_ne (tgt := 25) rfl (by decide) (fun hb20_1 => ?_) (fun hb20_1 => ?_)
      · skip
        have hb13 : 0 ≤ f ∧ f < mi m 0 17 := hb13_1
        refine j_aload_n rfl rfl ?_
        refine j_iload_n rfl rfl ?_
        refine j_callV (ci := 11) rfl okX11_isReadByOthers c_X11_304 (ct_isReadByOthers hS hI hK (by omega)) rfl rfl (hS.lt (by decide)) (hS.k (by decide) (by decide)) (by decide) rfl (Nat.le_of_ble_eq_true rfl) (by decide) (by decide) ?_
        rintro vq mq hq
        rcases hq with ⟨e2, ⟨hn2, e1⟩ | ⟨hn2, e1⟩⟩
        · subst e1
          rw [e2]
          simp only [Option.toList_some, Option.toList_none, List.cons_append, List.nil_append]
          refine j_if_ne (tgt := 36) rfl (by decide) (by omega) (by omega) (fun hb30_1 => ?_) (fun hb30_1 => ?_)
          · skip
            refine j_aload_n rfl rfl ?_
            refine j_aload_n rfl rfl ?_
            refine j_getR (q := 32) rfl f_X11_69 rfl (hS.lt (by decide)) (hS.k (by decide) (by decide)) (hS.r (by decide)) ?_
            refine j_aload_n rfl rfl ?_
            refine j_getR (q := 4) rfl f_X11_24 rfl (hS.lt (by decide)) (hS.k (by decide) (by decide)) (hS.r (by decide)) ?_
            refine j_iload_n rfl rfl ?_
            refine j_aald (k := 18) (n := 8) (v := (fl m f)) rfl (hS.lt (by decide)) (hS.k (by decide) (by decide)) el18 (hS.n (by decide) (by decide)) (by omega) (by omega) (by decide) (h.flt (by omega) (by omega)).1.1 ?_
            refine j_iload_n rfl rfl ?_
            refine j_iconst rfl ?_
            refine j_callV (ci := 11) rfl okX11_fly c_X11_197 (ct_flyC h (CU.rf m) h (o := 32) (f := f) (by unfold sto; omega) (by omega) (by omega) (by omega) (by omega)) rfl rfl (hS.lt (by decide)) (hS.k (by decide) (by decide)) (by decide) rfl (Nat.le_of_ble_eq_true rfl) (by decide) (by decide) ?_
            rintro vq N ⟨e1, ⟨hT1, hJ1, -⟩, hC, hQ⟩
            rw [e1]
            clear e1
            simp only [Option.toList_some, Option.toList_none, List.cons_append, List.nil_append]
            rw [zwFly_0] at hJ1
            have hS := hQ.s
            have hI := hQ.i
            refine j_iload_n rfl rfl ?_
            refine j_iconst rfl ?_
            refine j_isub rfl ?_
            refine j_istore rfl (by decide) ?_
            refine j_loc (ls' := [(0, vR 0), (1, vI b), (2, vI f), (3, vI n), (4, vI (n - 1))]) rfl ?_
            refine lp_neededC h (by omega) hb13 (by omega) (fun N2 hC2 hQ2 => ?_) n.toNat (n - 1) N hJ1 hC hQ (by omega) (by omega) rfl
            exact ⟨fun _ => ⟨fun z => absurd hn2 z, fun _ => ⟨hC2, hQ2, rfl⟩⟩, fun z => absurd ⟨hb5_1, hb13, hb20_1⟩ z⟩
          · skip
            exact absurd hb30_1 (by decide)
        · subst e1
          rw [e2]
          simp only [Option.toList_some, Option.toList_none, List.cons_append, List.nil_append]
          refine j_if_ne (tgt := 36) rfl (by decide) (by omega) (by omega) (fun hb30_2 => ?_) (fun hb30_2 => ?_)
          · skip
            exact absurd hb30_2 (by decide)
          · skip
            refine j_bipush rfl (by decide) ?_
            refine j_iret rfl rfl ?_ rfl (Nat.le_refl _)
            exact ⟨fun _ => ⟨fun _ => ⟨rfl, rfl⟩, fun z => absurd z hn2⟩, fun z => absurd ⟨hb5_1, hb13_1, hb20_1⟩ z⟩
      · skip
        refine j_iconst rfl ?_
        refine j_iret rfl rfl ?_ rfl (Nat.le_refl _)
        exact ⟨fun z => absurd z.2.2 hb20_1, fun _ => ⟨rfl, rfl⟩⟩


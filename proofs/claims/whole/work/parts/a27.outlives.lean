set_option maxRecDepth 20000 in
set_option maxHeartbeats 4000000 in
theorem lp_outlivesC {G : QW} {m : AM} {W : ZW} {b fs n : Int} (h : QX m W) (hb : 0 ≤ b ∧ b ≤ 5) (hn : 1 ≤ n ∧ n ≤ 200) (hfs1 : -2147483648 ≤ fs) (hfs2 : fs < 2147483648) : ∀ (c : Nat) (f : Int) (N : AM), CU m N → TF 40 m N → QX N W → f + c = mi m 0 17 → 0 ≤ f → (∀ g : Int, 0 ≤ g → g < f → z_iand (z_ishr fs g) 1 ≠ 0 → (zwFull W (Fm m g) n).fa b.toNat = 0) → qJ G mX11_outlives { frames := 6, cells := 0, slots := 0, locals := 60 * 6 } (qF G (fun r N2 => (CU m N2 ∧ TF 40 m N2) ∧ QX N2 W ∧ ((r = some (vI 1) ∧ outl W (Fm m) fs n (mi m 0 17) b) ∨ (r = some (vI 0) ∧ ∃ f : Int, (0 ≤ f ∧ f < mi m 0 17 ∧ z_iand (z_ishr fs f) 1 ≠ 0) ∧ JC N2 40 (zwFly W (Fm m f) n (z_ishl 1 b)) ∧ (zwFly W (Fm m f) n (z_ishl 1 b)).fa b.toNat ≠ 0))) 0 0) 3 [(0, vR 0), (1, vI b), (2, vI fs), (3, vI n), (4, vI f)] [] N 0 0 := by
  have h17 := h.i.s 0 17 0 8 (by decide)
  intro c
  induction c with
  | zero =>
    intro f N hC hT0 hQ hf hf0 hA
    have e17 : mi N 0 17 = mi m 0 17 := hC.1.2.2.1 0 17 (by unfold NQ; omega)
    have hS := hQ.s
    refine j_iload rfl rfl ?_
    refine j_aload_n rfl rfl ?_
    refine j_getI rfl f_X11_156 rfl (hS.lt (by decide)) (hS.k (by decide) (by decide)) ?_
    refine j_icmp_ge (tgt := 63) rfl (by decide) (by omega) (by omega) (by omega) (by omega) (fun hb9_1 => ?_) (fun hb9_1 => by exfalso; omega)
    refine j_iconst rfl ?_
    refine j_zret rfl rfl (by decide) ?_ rfl (Nat.le_refl _)
    exact ⟨⟨hC, hT0⟩, hQ, Or.inl ⟨rfl, fun g g0 g1 g2 => hA g g0 (by omega) g2⟩⟩
  | succ c ih =>
    intro f N hC hT0 hQ hf hf0 hA
    have e17 : mi N 0 17 = mi m 0 17 := hC.1.2.2.1 0 17 (by unfold NQ; omega)
    have hS := hQ.s
    have hI := hQ.i
    refine j_iload rfl rfl ?_
    refine j_aload_n rfl rfl ?_
    refine j_getI rfl f_X11_156 rfl (hS.lt (by decide)) (hS.k (by decide) (by decide)) ?_
    have u6_1 := hI.s 0 17 (0) 8 (by decide)
    rw [e17]
    refine j_icmp_ge (tgt := 63) rfl (by decide) (by omega) (by omega) (by omega) (by omega) (fun hb9_1 => ?_) (fun hb9_1 => ?_)
    · skip
      refine j_iconst rfl ?_
      refine j_zret rfl rfl (by decide) ?_ rfl (Nat.le_refl _)
      exfalso; omega
    · skip
      refine j_iload_n rfl rfl ?_
      refine j_iload rfl rfl ?_
      refine j_ishr rfl ?_
      have z15_1 := z_ishr_rng fs f
      refine j_iconst rfl ?_
      refine j_iand rfl ?_
      have z17_1 := z_iand_rng (z_ishr fs f) 1
      refine j_if_ne (tgt := 24) rfl (by decide) (by omega) (by omega) (fun hb18_1 => ?_) (fun hb18_1 => ?_)
      · skip
        refine j_aload_n rfl rfl ?_
        refine j_aload_n rfl rfl ?_
        refine j_getR (q := 40) rfl f_X11_72 rfl (hS.lt (by decide)) (hS.k (by decide) (by decide)) (hS.r (by decide)) ?_
        refine j_aload_n rfl rfl ?_
        refine j_getR (q := 4) rfl f_X11_24 rfl (hS.lt (by decide)) (hS.k (by decide) (by decide)) (hS.r (by decide)) ?_
        refine j_iload rfl rfl ?_
        refine j_aald (k := 18) (n := 8) (v := (fl m f)) rfl (hS.lt (by decide)) (hS.k (by decide) (by decide)) el18 (hS.n (by decide) (by decide)) (by omega) (by omega) (by decide) (by rw [hC.1.2.1 4 _ (fun z => absurd z.1 (by decide))]; exact (h.flt (by omega) (by omega)).1.1) ?_
        refine j_iload_n rfl rfl ?_
        refine j_iconst rfl ?_
        refine j_iload_n rfl rfl ?_
        refine j_ishl rfl ?_
        have z39_1 := z_ishl_rng 1 b
        refine j_callV (ci := 11) rfl okX11_fly c_X11_197 (ct_flyX h hC hQ (o := 40) (f := f) (by unfold sto; omega) (by omega) (z_ishl_rng 1 b) (by omega) (by omega)) rfl rfl (hS.lt (by decide)) (hS.k (by decide) (by decide)) (by decide) rfl (Nat.le_of_ble_eq_true rfl) (by decide) (by decide) ?_
        rintro vq K ⟨e1, ⟨hT, hJ⟩, hC2, hQ2⟩
        rw [e1]
        clear e1
        simp only [Option.toList_some, Option.toList_none, List.cons_append, List.nil_append]
        have hS := hQ2.s
        have hI := hQ2.i
        have eb : mi K 43 b.toNat = (zwFly W (Fm m f) n (z_ishl 1 b)).fa b.toNat := hJ.2.2.1 b.toNat (by omega)
        refine j_aload_n rfl rfl ?_
        refine j_getR (q := 40) rfl f_X11_72 rfl (hS.lt (by decide)) (hS.k (by decide) (by decide)) (hS.r (by decide)) ?_
        refine j_getR (q := 43) rfl f_X11_210 rfl (hS.lt (by decide)) (hS.k (by decide) (by decide)) (hS.r (by decide)) ?_
        refine j_iload_n rfl rfl ?_
        refine j_iald (n := 6) rfl (hS.lt (by decide)) (hS.k (by decide) (by decide)) (hS.n (by decide) (by decide)) (by omega) (by omega) (by decide) ?_
        have u51_1 := mi_rng K 43 b.toNat
        have ebr := mi_rng K 43 b.toNat
        rw [eb] at ebr ⊢
        refine j_if_eq (tgt := 57) rfl (by decide) (by omega) (by omega) (fun hb52_1 => ?_) (fun hb52_1 => ?_)
        · skip
          refine j_iinc rfl rfl (by decide) ?_
          refine j_goto (tgt := 3) rfl (by decide) ?_
          refine j_loc (ls' := [(0, vR 0), (1, vI b), (2, vI fs), (3, vI n), (4, vI (f + 1))]) rfl ?_
          refine ih (f + 1) K hC2 (hT0.trans hT) hQ2 (by omega) (by omega) (fun g g0 g1 g2 => ?_)
          by_cases z : g = f
          · rw [z, ← zwFly_1 W (Fm m f) n hb]
            exact hb52_1
          · exact hA g g0 (by omega) g2
        · skip
          refine j_iconst rfl ?_
          refine j_zret rfl rfl (by decide) ?_ rfl (Nat.le_refl _)
          exact ⟨⟨hC2, hT0.trans hT⟩, hQ2, Or.inr ⟨rfl, f, ⟨hf0, by omega, hb18_1⟩, hJ, hb52_1⟩⟩
      · skip
        refine j_goto (tgt := 57) rfl (by decide) ?_
        refine j_iinc rfl rfl (by decide) ?_
        refine j_goto (tgt := 3) rfl (by decide) ?_
        refine j_loc (ls' := [(0, vR 0), (1, vI b), (2, vI fs), (3, vI n), (4, vI (f + 1))]) rfl ?_
        refine ih (f + 1) N hC hT0 hQ (by omega) (by omega) (fun g g0 g1 g2 => ?_)
        by_cases z : g = f
        · rw [z] at g2; exact absurd hb18_1 g2
        · exact hA g g0 (by omega) g2

set_option maxRecDepth 20000 in
set_option maxHeartbeats 4000000 in
theorem ct_outlives {G : QW} {m : AM} {W : ZW} {b fs n : Int} (h : QX m W) (hb : 0 ≤ b ∧ b ≤ 5) (hn : 1 ≤ n ∧ n ≤ 200) (hfs1 : -2147483648 ≤ fs) (hfs2 : fs < 2147483648) : qM G mX11_outlives 6 0 0 [vR 0, vI b, vI fs, vI n] m (fun r N2 => (CU m N2 ∧ TF 40 m N2) ∧ QX N2 W ∧ ((r = some (vI 1) ∧ outl W (Fm m) fs n (mi m 0 17) b) ∨ (r = some (vI 0) ∧ ∃ f : Int, (0 ≤ f ∧ f < mi m 0 17 ∧ z_iand (z_ishr fs f) 1 ≠ 0) ∧ JC N2 40 (zwFly W (Fm m f) n (z_ishl 1 b)) ∧ (zwFly W (Fm m f) n (z_ishl 1 b)).fa b.toNat ≠ 0))) := by
  refine qM.intro okX11_outlives (Nat.le_of_ble_eq_true rfl) ?_
  refine j_iconst rfl ?_
  refine j_istore rfl (by decide) ?_
  refine j_loc (ls' := [(0, vR 0), (1, vI b), (2, vI fs), (3, vI n), (4, vI 0)]) rfl ?_
  exact lp_outlivesC h hb hn hfs1 hfs2 (mi m 0 17).toNat 0 m (CU.rf m) (TF.rf 40 m) h (by have := h.i.s 0 17 0 8 (by decide); omega) (by decide) (fun g g0 g1 => by omega)

/-- a set is foretold to fail -/
def ftl (m : AM) (x : Int) : Prop := ∃ i : Nat, (i : Int) < mi m 59 2 ∧ z_iand x (mi m 61 i) = mi m 60 i

set_option maxRecDepth 20000 in
set_option maxHeartbeats 4000000 in
theorem lp_foretell {G : QW} {m : AM} {x : Int} (hS : St m) (hI : IM m) (hx : -2147483648 ≤ x ∧ x < 2147483648) (hn : 0 ≤ mi m 59 2 ∧ mi m 59 2 ≤ 256) : ∀ (c : Nat) (i : Int), mi m 59 2 - i < c → (0 ≤ i ∧ i ≤ mi m 59 2) → (∀ j : Nat, (j : Int) < i → ¬ z_iand x (mi m 61 j) = mi m 60 j) → qJ G mX2_foretell { frames := 0, cells := 0, slots := 0, locals := 60 * 0 } (qF G (fun r m' => m' = m ∧ ((ftl m x ∧ r = some (vI 1)) ∨ (¬ ftl m x ∧ r = some (vI 0)))) 0 0) 2 [(0, vR 59), (1, vI x), (2, vI i)] [] m 0 0 := by
  intro c
  induction c with
  | zero => intro i h1 h2; omega
  | succ c ih =>
    intro i hc hi hA
    refine j_iload_n rfl rfl ?_
    refine j_aload_n rfl rfl ?_
    refine j_getI rfl f_X2_18 rfl (hS.lt (by decide)) (hS.k (by decide) (by decide)) ?_
    have u4_1 := mi_rng m 59 2
    refine j_icmp_ge (tgt := 35) rfl (by decide) (by omega) (by omega) (by omega) (by omega) (fun hb7_1 => ?_) (fun hb7_1 => ?_)
    · skip
      refine j_iconst rfl ?_
      refine j_zret rfl rfl (by decide) ?_ rfl (Nat.le_refl _)
      exact ⟨rfl, Or.inr ⟨fun ⟨j, j1, j2⟩ => hA j (by omega) j2, rfl⟩⟩
    · skip
      refine j_iload_n rfl rfl ?_
      refine j_aload_n rfl rfl ?_
      refine j_getR (q := 61) rfl f_X2_15 rfl (hS.lt (by decide)) (hS.k (by decide) (by decide)) (hS.r (by decide)) ?_
      refine j_iload_n rfl rfl ?_
      refine j_iald (n := 256) rfl (hS.lt (by decide)) (hS.k (by decide) (by decide)) (hS.n (by decide) (by decide)) (by omega) (by omega) (by decide) ?_
      have u16_1 := mi_rng m 61 i.toNat
      refine j_iand rfl ?_
      have z17_1 := z_iand_rng x (mi m 61 i.toNat)
      refine j_aload_n rfl rfl ?_
      refine j_getR (q := 60) rfl f_X2_9 rfl (hS.lt (by decide)) (hS.k (by decide) (by decide)) (hS.r (by decide)) ?_
      refine j_iload_n rfl rfl ?_
      refine j_iald (n := 256) rfl (hS.lt (by decide)) (hS.k (by decide) (by decide)) (hS.n (by decide) (by decide)) (by omega) (by omega) (by decide) ?_
      have u23_1 := mi_rng m 60 i.toNat
      refine j_icmp_ne (tgt := 29) rfl (by decide) (by omega) (by omega) (by omega) (by omega) (fun hb24_1 => ?_) (fun hb24_1 => ?_)
      · skip
        refine j_iinc rfl rfl (by decide) ?_
        refine j_goto (tgt := 2) rfl (by decide) ?_
        refine j_loc (ls' := [(0, vR 59), (1, vI x), (2, vI (i + 1))]) rfl ?_
        refine ih (i + 1) (by omega) (by omega) (fun j hj => ?_)
        by_cases z : (j : Int) < i
        · exact hA j z
        · rw [show j = i.toNat by omega]
          exact hb24_1
      · skip
        refine j_iconst rfl ?_
        refine j_zret rfl rfl (by decide) ?_ rfl (Nat.le_refl _)
        exact ⟨rfl, Or.inl ⟨⟨i.toNat, by omega, hb24_1⟩, rfl⟩⟩

set_option maxRecDepth 20000 in
set_option maxHeartbeats 4000000 in
theorem ct_foretell {G : QW} {m : AM} {x : Int} (hS : St m) (hI : IM m) (hx : -2147483648 ≤ x ∧ x < 2147483648) (hn : 0 ≤ mi m 59 2 ∧ mi m 59 2 ≤ 256) : qM G mX2_foretell 0 0 0 [vR 59, vI x] m (fun r m' => m' = m ∧ ((ftl m x ∧ r = some (vI 1)) ∨ (¬ ftl m x ∧ r = some (vI 0)))) := by
  refine qM.intro okX2_foretell (Nat.le_of_ble_eq_true rfl) ?_
  refine j_iconst rfl ?_
  refine j_istore_n rfl (by decide) ?_
  refine j_loc (ls' := [(0, vR 59), (1, vI x), (2, vI 0)]) rfl ?_
  exact lp_foretell hS hI hx hn ((mi m 59 2).toNat + 1) 0 (by omega) (by omega) (fun j hj => by omega)


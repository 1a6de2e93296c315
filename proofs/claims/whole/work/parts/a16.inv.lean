/-! what runs stand on, on either side -/
theorem RA.ref {m N : AM} (h : RA m) (hS : St N) (hI : IM N) (e : ∀ c j : Nat, 86 ≤ c → c ≤ 144 → mi N c j = mi m c j) : RA N := by
  obtain ⟨⟨h1, h2, h3⟩, h4⟩ := h
  refine ⟨⟨h1.ext hS hI (fun o ho j => ?_) (fun k _ => e _ _ (by decide) (by decide)), ?_, ?_⟩, ?_⟩
  · have q := (by decide : ∀ o ∈ riL, 86 ≤ o ∧ o ≤ 144) o ho
    exact e _ _ q.1 q.2
  · intro b s
    rw [e 86 1 (by decide) (by decide), e 88 _ (by decide) (by decide)]
    exact h2 b s
  · intro j
    rw [e 123 _ (by decide) (by decide), e 124 _ (by decide) (by decide)]
    exact h3 j
  · intro p
    rw [e 86 70 (by decide) (by decide), e 86 1 (by decide) (by decide), e 86 21 (by decide) (by decide), e 133 _ (by decide) (by decide), e 134 _ (by decide) (by decide), e 135 _ (by decide) (by decide), e 136 _ (by decide) (by decide), e 136 _ (by decide) (by decide)]
    exact h4 p
theorem stO {m : AM} {o : Nat} (h : St m) (ho : sto o) : ObA m o 9 fsStand := by
  rcases ho with rfl | rfl | rfl
  all_goals
    refine ⟨h.lt (by decide), h.k (by decide) (by decide), fun q hq => ?_⟩
    have hq2 : q = (0, 1, 13, 48) ∨ q = (1, 2, 13, 24) ∨ q = (2, 3, 13, 6) ∨ q = (3, 4, 13, 6) ∨ q = (4, 5, 13, 6) ∨ q = (5, 6, 13, 6) ∨ q = (6, 7, 13, 4) := by simpa [fsStand] using hq
    rcases hq2 with rfl | rfl | rfl | rfl | rfl | rfl | rfl <;> exact ⟨h.r (by decide), h.lt (by decide), h.k (by decide) (by decide), h.n (by decide) (by decide)⟩
def QR (m : AM) : Prop := RA m ∧ K1 m ∧ K2 m ∧ (RC m 24 ∧ RC m 32 ∧ RC m 40) ∧ CR m ∧ FLG m 48
theorem QR.s {m : AM} (h : QR m) : St m := h.1.1.1.s
theorem QR.i {m : AM} (h : QR m) : IM m := h.1.1.1.i
theorem QR.rc {m : AM} (h : QR m) {o : Nat} (ho : sto o) : RC m o := by
  rcases ho with rfl | rfl | rfl
  · exact h.2.2.2.1.1
  · exact h.2.2.2.1.2.1
  · exact h.2.2.2.1.2.2
theorem QR.wok {m : AM} (h : QR m) : (wN m).ok := by
  have e : wM (aiM m) = wN m := by
    rw [wM_wN (show mi (aiM m) 86 48 < 0 from by unfold aiM; rw [mi_si_same _ _ _ (by decide) (by decide)]; decide)]
    have e1 : ∀ c j, ¬ (c = 86 ∧ (j = 43 ∨ j = 46 ∨ j = 48)) → mi (aiM m) c j = mi m c j := fun c j hc => by
      unfold aiM
      rw [mi_si_ne _ _ (by omega), mi_si_ne _ _ (by omega), mi_si_ne _ _ (by omega)]
    refine wN_rows (fun o ho j => e1 o j (fun q => (by decide : ∀ o ∈ ([87, 88, 89, 91, 92, 93, 94, 95, 96, 97, 98, 99] : List Nat), o ≠ 86) o ho q.1)) (e1 _ _ (by decide))
  rw [← e]
  refine wM_ok h.1.1.1.asIs (fun b r h0 h1 r0 r1 => ?_)
  have q := h.1.1.2.1 b r h0 h1 r0 r1
  exact q
theorem QR.gt {m : AM} (h : QR m) {o : Nat} (ho : sto o) : GT m o (wN m) := ⟨h.s, ho, stO h.s ho, h.wok, fun b h0 h1 => (h.2.1.2 b h0 h1).1⟩
theorem QR.bi {m N : AM} {o : Nat} {g : Prop} {S : ZS} (h : QR m) (ho : sto o) (hB : BI m o g N S) (hC : CR N) : QR N := by
  have q := hB.1.qu ho
  have ho2 := ho
  unfold sto at ho2
  have key : ∀ o', sto o' → RC N o' := by
    intro o' h'
    by_cases e : o' = o
    · rw [e]; exact hB.2.2.1
    · have h2 := h'
      unfold sto at h2
      exact (h.rc h').same (fun r j hr => hB.1.cel (by unfold tcl; omega) j)
  refine ⟨h.1.ref (q.st h.s) hB.2.1 (fun c j h1 h2 => hB.1.cel (by unfold tcl; omega) j), q.k1 h.2.1, q.k2 h.2.2.1, ⟨key 24 (Or.inl rfl), key 32 (Or.inr (Or.inl rfl)), key 40 (Or.inr (Or.inr rfl))⟩, hC, hB.1.fg ho h.2.2.2.2.2⟩
theorem QR.flt {m : AM} (h : QR m) {f : Int} (h0 : 0 ≤ f) (h1 : f < mi m 0 17) : (mr m 4 f.toNat = some (fl m f) ∧ 145 ≤ fl m f) ∧ FLG m (fl m f) ∧ AgF m f := h.2.2.1.2 f h0 (by rw [← h.2.2.1.1]; exact h1)
/-- a flight of the class is flown -/
theorem ct_flyQ {G : QW} {m : AM} {o : Nat} {f n u : Int} (h : QR m) (ho : sto o) (hf : 0 ≤ f ∧ f < mi m 0 17) (hu : -2147483648 ≤ u ∧ u < 2147483648) (hn1 : 0 ≤ n) (hn : n ≤ 200) : qM G mX11_fly 5 0 0 [vR 0, vR o, vR (fl m f), vI n, vI u] m (fun r N => r = none ∧ (BI m o True N (zwFly (wN m) (feF m (fl m f)) n u) ∧ CR N) ∧ QR N) :=
  qM.mono (ct_flyK (h.gt ho) h.2.1.1 (h.flt hf.1 hf.2).2.1 hu hn1 hn h.i (h.rc ho) h.2.2.2.2.1) (fun r N q => ⟨q.1, q.2, h.bi ho q.2.1 q.2.2⟩)

def FJ6_bitCount_0f7a4 (m : AM) (i : Int) : Int :=
  z_iand (((z_iand (((z_iand (i - (z_iand (z_iushr i 1) 1431655765)) 858993459) + (z_iand (z_iushr (i - (z_iand (z_iushr i 1) 1431655765)) 2) 858993459)) + (z_iushr ((z_iand (i - (z_iand (z_iushr i 1) 1431655765)) 858993459) + (z_iand (z_iushr (i - (z_iand (z_iushr i 1) 1431655765)) 2) 858993459)) 4)) 252645135) + (z_iushr (z_iand (((z_iand (i - (z_iand (z_iushr i 1) 1431655765)) 858993459) + (z_iand (z_iushr (i - (z_iand (z_iushr i 1) 1431655765)) 2) 858993459)) + (z_iushr ((z_iand (i - (z_iand (z_iushr i 1) 1431655765)) 858993459) + (z_iand (z_iushr (i - (z_iand (z_iushr i 1) 1431655765)) 2) 858993459)) 4)) 252645135) 8)) + (z_iushr ((z_iand (((z_iand (i - (z_iand (z_iushr i 1) 1431655765)) 858993459) + (z_iand (z_iushr (i - (z_iand (z_iushr i 1) 1431655765)) 2) 858993459)) + (z_iushr ((z_iand (i - (z_iand (z_iushr i 1) 1431655765)) 858993459) + (z_iand (z_iushr (i - (z_iand (z_iushr i 1) 1431655765)) 2) 858993459)) 4)) 252645135) + (z_iushr (z_iand (((z_iand (i - (z_iand (z_iushr i 1) 1431655765)) 858993459) + (z_iand (z_iushr (i - (z_iand (z_iushr i 1) 1431655765)) 2) 858993459)) + (z_iushr ((z_iand (i - (z_iand (z_iushr i 1) 1431655765)) 858993459) + (z_iand (z_iushr (i - (z_iand (z_iushr i 1) 1431655765)) 2) 858993459)) 4)) 252645135) 8)) 16)) 63
set_option maxRecDepth 20000 in
set_option maxHeartbeats 4000000 in
theorem ct_J6_bitCount_0f7a4 {G : QW} {m : AM} {i : Int} (hi1 : -2147483648 ≤ i) (hi2 : i < 2147483648) : qM G mJ6_bitCount_0f7a4 0 0 0 [vI i] m (fun r m' => r = some (vI (FJ6_bitCount_0f7a4 m i)) ∧ m' = m) := by
  refine qM.intro okJ6_bitCount_0f7a4 (Nat.le_of_ble_eq_true rfl) ?_
  refine j_iload_n rfl rfl ?_
  refine j_iload_n rfl rfl ?_
  refine j_iconst rfl ?_
  refine j_iushr rfl ?_
  have z3_1 := z_iushr_rng i 1
  refine j_ldcw (v := 1431655765) rfl k_J6_265 ?_
  refine j_iand rfl ?_
  have z7_1 := z_iand_rng (z_iushr i 1) 1431655765
  refine j_isub rfl ?_
  refine j_istore_n rfl (by decide) ?_
  refine j_iload_n rfl rfl ?_
  refine j_ldcw (v := 858993459) rfl k_J6_266 ?_
  refine j_iand rfl ?_
  have z14_1 := z_iand_rng (i - (z_iand (z_iushr i 1) 1431655765)) 858993459
  refine j_iload_n rfl rfl ?_
  refine j_iconst rfl ?_
  refine j_iushr rfl ?_
  have z17_1 := z_iushr_rng (i - (z_iand (z_iushr i 1) 1431655765)) 2
  refine j_ldcw (v := 858993459) rfl k_J6_266 ?_
  refine j_iand rfl ?_
  have z21_1 := z_iand_rng (z_iushr (i - (z_iand (z_iushr i 1) 1431655765)) 2) 858993459
  refine j_iadd rfl ?_
  refine j_istore_n rfl (by decide) ?_
  refine j_iload_n rfl rfl ?_
  refine j_iload_n rfl rfl ?_
  refine j_iconst rfl ?_
  refine j_iushr rfl ?_
  have z27_1 := z_iushr_rng ((z_iand (i - (z_iand (z_iushr i 1) 1431655765)) 858993459) + (z_iand (z_iushr (i - (z_iand (z_iushr i 1) 1431655765)) 2) 858993459)) 4
  refine j_iadd rfl ?_
  refine j_ldcw (v := 252645135) rfl k_J6_267 ?_
  refine j_iand rfl ?_
  have z32_1 := z_iand_rng (((z_iand (i - (z_iand (z_iushr i 1) 1431655765)) 858993459) + (z_iand (z_iushr (i - (z_iand (z_iushr i 1) 1431655765)) 2) 858993459)) + (z_iushr ((z_iand (i - (z_iand (z_iushr i 1) 1431655765)) 858993459) + (z_iand (z_iushr (i - (z_iand (z_iushr i 1) 1431655765)) 2) 858993459)) 4)) 252645135
  refine j_istore_n rfl (by decide) ?_
  refine j_iload_n rfl rfl ?_
  refine j_iload_n rfl rfl ?_
  refine j_bipush rfl (by decide) ?_
  refine j_iushr rfl ?_
  have z38_1 := z_iushr_rng (z_iand (((z_iand (i - (z_iand (z_iushr i 1) 1431655765)) 858993459) + (z_iand (z_iushr (i - (z_iand (z_iushr i 1) 1431655765)) 2) 858993459)) + (z_iushr ((z_iand (i - (z_iand (z_iushr i 1) 1431655765)) 858993459) + (z_iand (z_iushr (i - (z_iand (z_iushr i 1) 1431655765)) 2) 858993459)) 4)) 252645135) 8
  refine j_iadd rfl ?_
  refine j_istore_n rfl (by decide) ?_
  refine j_iload_n rfl rfl ?_
  refine j_iload_n rfl rfl ?_
  refine j_bipush rfl (by decide) ?_
  refine j_iushr rfl ?_
  have z45_1 := z_iushr_rng ((z_iand (((z_iand (i - (z_iand (z_iushr i 1) 1431655765)) 858993459) + (z_iand (z_iushr (i - (z_iand (z_iushr i 1) 1431655765)) 2) 858993459)) + (z_iushr ((z_iand (i - (z_iand (z_iushr i 1) 1431655765)) 858993459) + (z_iand (z_iushr (i - (z_iand (z_iushr i 1) 1431655765)) 2) 858993459)) 4)) 252645135) + (z_iushr (z_iand (((z_iand (i - (z_iand (z_iushr i 1) 1431655765)) 858993459) + (z_iand (z_iushr (i - (z_iand (z_iushr i 1) 1431655765)) 2) 858993459)) + (z_iushr ((z_iand (i - (z_iand (z_iushr i 1) 1431655765)) 858993459) + (z_iand (z_iushr (i - (z_iand (z_iushr i 1) 1431655765)) 2) 858993459)) 4)) 252645135) 8)) 16
  refine j_iadd rfl ?_
  refine j_istore_n rfl (by decide) ?_
  refine j_iload_n rfl rfl ?_
  refine j_bipush rfl (by decide) ?_
  refine j_iand rfl ?_
  have z51_1 := z_iand_rng (((z_iand (((z_iand (i - (z_iand (z_iushr i 1) 1431655765)) 858993459) + (z_iand (z_iushr (i - (z_iand (z_iushr i 1) 1431655765)) 2) 858993459)) + (z_iushr ((z_iand (i - (z_iand (z_iushr i 1) 1431655765)) 858993459) + (z_iand (z_iushr (i - (z_iand (z_iushr i 1) 1431655765)) 2) 858993459)) 4)) 252645135) + (z_iushr (z_iand (((z_iand (i - (z_iand (z_iushr i 1) 1431655765)) 858993459) + (z_iand (z_iushr (i - (z_iand (z_iushr i 1) 1431655765)) 2) 858993459)) + (z_iushr ((z_iand (i - (z_iand (z_iushr i 1) 1431655765)) 858993459) + (z_iand (z_iushr (i - (z_iand (z_iushr i 1) 1431655765)) 2) 858993459)) 4)) 252645135) 8)) + (z_iushr ((z_iand (((z_iand (i - (z_iand (z_iushr i 1) 1431655765)) 858993459) + (z_iand (z_iushr (i - (z_iand (z_iushr i 1) 1431655765)) 2) 858993459)) + (z_iushr ((z_iand (i - (z_iand (z_iushr i 1) 1431655765)) 858993459) + (z_iand (z_iushr (i - (z_iand (z_iushr i 1) 1431655765)) 2) 858993459)) 4)) 252645135) + (z_iushr (z_iand (((z_iand (i - (z_iand (z_iushr i 1) 1431655765)) 858993459) + (z_iand (z_iushr (i - (z_iand (z_iushr i 1) 1431655765)) 2) 858993459)) + (z_iushr ((z_iand (i - (z_iand (z_iushr i 1) 1431655765)) 858993459) + (z_iand (z_iushr (i - (z_iand (z_iushr i 1) 1431655765)) 2) 858993459)) 4)) 252645135) 8)) 16)) 63
  refine j_iret rfl rfl ?_ rfl (Nat.le_refl _)
  unfold FJ6_bitCount_0f7a4
  exact ⟨rfl, rfl⟩

theorem bits_sp (m : AM) {x : Int} (h0 : 0 ≤ x) (h1 : x < 256) : FJ6_bitCount_0f7a4 m x = bcX x := by
  have key : ∀ k : Fin 256, FJ6_bitCount_0f7a4 m ((k : Nat) : Int) = bcX ((k : Nat) : Int) := by
    intro k
    unfold FJ6_bitCount_0f7a4
    revert k
    decide +kernel
  have q := key ⟨x.toNat, by omega⟩
  rw [show (((⟨x.toNat, by omega⟩ : Fin 256) : Nat) : Int) = x from by show ((x.toNat : Nat) : Int) = x; omega] at q
  exact q
theorem ct_bitCount {G : QW} {m : AM} {x : Int} (h0 : 0 ≤ x) (h1 : x < 256) : qM G mJ6_bitCount_0f7a4 0 0 0 [vI x] m (fun r m' => r = some (vI (bcX x)) ∧ m' = m) :=
  qM.mono (ct_J6_bitCount_0f7a4 (by omega) (by omega)) (fun r N h => ⟨by rw [← bits_sp m h0 h1]; exact h.1, h.2⟩)
theorem bcX_r8 {x : Int} (h0 : 0 ≤ x) (h1 : x < 256) : 0 ≤ bcX x ∧ bcX x ≤ 8 := by
  have key : ∀ k : Fin 256, 0 ≤ bcX ((k : Nat) : Int) ∧ bcX ((k : Nat) : Int) ≤ 8 := by decide +kernel
  have q := key ⟨x.toNat, by omega⟩
  rw [show (((⟨x.toNat, by omega⟩ : Fin 256) : Nat) : Int) = x from by show ((x.toNat : Nat) : Int) = x; omega] at q
  exact q


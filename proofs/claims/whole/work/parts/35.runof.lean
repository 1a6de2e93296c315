theorem begin_keep {m : AM} (h : RT m) : RT (FX12_begin m) ∧ Fr m (FX12_begin m) ∧ ∀ j, j ≠ 35 → mi (FX12_begin m) 86 j = mi m 86 j := by
  have k1 := h.fill (o := 106) (Or.inl rfl) 0 48 (v := 0) (by decide) (by decide) (fun q => absurd q (by decide))
  have k2 := k1.1.fill (o := 107) (Or.inr (Or.inl rfl)) 0 24 (v := 0) (by decide) (by decide) (fun q => absurd q (by decide))
  have k3 := k2.1.fill (o := 108) (Or.inr (Or.inr (Or.inl rfl))) 0 24 (v := 0) (by decide) (by decide) (fun _ => by decide)
  have k4 := k3.1.fill (o := 111) (Or.inr (Or.inr (Or.inr (Or.inl rfl)))) 0 6 (v := 0) (by decide) (by decide) (fun q => absurd q (by decide))
  have k5 := k4.1.fill (o := 112) (Or.inr (Or.inr (Or.inr (Or.inr (Or.inl rfl))))) 0 6 (v := -1) (by decide) (by decide) (fun q => absurd q (by decide))
  have k6 := k5.1.fill (o := 113) (Or.inr (Or.inr (Or.inr (Or.inr (Or.inr rfl))))) 0 6 (v := 0) (by decide) (by decide) (fun q => absurd q (by decide))
  unfold FX12_begin
  exact ⟨k6.1.other (by decide) (by decide) (k6.1.1.first (Or.inl rfl) _), (k1.2.1.trans (k2.2.1.trans (k3.2.1.trans (k4.2.1.trans (k5.2.1.trans k6.2.1))))).one (by decide) _ _,
    fun j hj => (mi_si_ne _ _ (fun q => hj q.2)).trans ((k6.2.2 j).trans ((k5.2.2 j).trans ((k4.2.2 j).trans ((k3.2.2 j).trans ((k2.2.2 j).trans (k1.2.2 j))))))⟩
/-- a run of flight f over n ticks at the reference -/
def roM (m : AM) (f n : Int) : AM := roL f n.toNat (si (FX12_begin m) 86 39 0)

set_option maxRecDepth 20000 in
theorem ct_X12_runOf {G : QW} {m : AM} {f n : Int} (hRT : RT m) (hf0 : 0 ≤ f) (hf7 : f ≤ 7) (hn0 : 0 ≤ n) (hn : n ≤ 200) (hf : 0 ≤ mi m 86 45 ∧ mi m 86 45 ≤ 10) (hLK : ∀ b j, 0 ≤ b → b < mi m 86 1 → 0 ≤ j → j < mi m 91 b.toNat → LK m b ((12 * b) + j)) : qM G mX12_runOf 5 0 0 [vR 86, vI f, vI n] m (fun r m' => r = none ∧ SameP (roM m f n) m') := by
  refine qM.intro okX12_runOf (Nat.le_of_ble_eq_true rfl) ?_
  have hB := begin_keep hRT
  have hS := hRT.1.1
  have hI := hRT.1.2.1
  refine j_aload_n rfl rfl ?_
  refine j_callV (ci := 12) rfl okX12_begin c_X12_377 (ct_X12_begin hS hI) rfl rfl (hS.lt (by decide)) (hS.k (by decide) (by decide)) (by decide) rfl (Nat.le_of_ble_eq_true rfl) (by decide) (by decide) ?_
  rintro vq mq ⟨e1, e2⟩
  rw [e1, e2]
  clear e1 e2
  simp only [Option.toList_some, Option.toList_none, List.cons_append, List.nil_append]
  refine j_aload_n rfl rfl ?_
  refine j_iconst rfl ?_
  refine j_putI rfl f_X12_322 rfl (hS.lt (by decide)) (hS.k (by decide) (by decide)) ?_
  exact lp_runOf_9 (m := m) hf0 hf7 hn hf hLK n.toNat 0 (si (FX12_begin m) 86 39 0) (si (FX12_begin m) 86 39 0) (hB.2.1.one (by decide) _ _) (by rw [mi_si_ne _ _ (by decide)]; exact hB.2.2 1 (by decide)) (by rw [mi_si_ne _ _ (by decide)]; exact hB.2.2 45 (by decide)) (hB.1.other (by decide) (by decide) (hB.1.1.time (by decide) (by decide))) (SameP.rf _) (mi_si_same _ _ _ (by decide) (by decide)) (by omega) (Int.le_refl 0) rfl


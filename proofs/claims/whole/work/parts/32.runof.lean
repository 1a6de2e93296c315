/-- what the reference's FELTs are at a tick -/
def feL (f : Int) : Nat → Int → AM → AM
  | 0, _, N => N
  | c + 1, k, N => feL f c (k + 1) (si N 114 k.toNat (FX12_feltAt N ((3 * f) + k) (mi N 86 39)))

set_option maxRecDepth 20000 in
theorem lp_runOf_19 {G : QW} {E : AM} {f n t : Int} {Rp : Option Vl → AM → Prop} (hf0 : 0 ≤ f) (hf7 : f ≤ 7) (ht0 : 0 ≤ t) (ht1 : t ≤ 199) (hexit : qJ G mX12_runOf { frames := 5, cells := 0, slots := 0, locals := 60 * 5 } (qF G Rp 0 0) 49 [(0, vR 86), (1, vI f), (2, vI n)] [] E 0 0) : ∀ (c : Nat) (k : Int) (N : AM), RF N → mi N 86 39 = t → k + c = 3 → 0 ≤ k → feL f c k N = E → qJ G mX12_runOf { frames := 5, cells := 0, slots := 0, locals := 60 * 5 } (qF G Rp 0 0) 19 [(0, vR 86), (1, vI f), (2, vI n), (3, vI k)] [] N 0 0 := by
  intro c
  induction c with
  | zero =>
    intro k N hR ht hc hk hE
    have hE : N = E := hE
    refine j_iload_n rfl rfl ?_
    refine j_iconst rfl ?_
    refine j_icmp_ge (tgt := 49) rfl (by decide) (by omega) (by omega) (by omega) (by omega) (fun hb21_1 => ?_) (fun hb21_1 => ?_)
    · skip
      refine j_loc (ls' := [(0, vR 86), (1, vI f), (2, vI n)]) rfl ?_
      subst hE
      exact hexit
    · skip
      exfalso; omega
  | succ c ih =>
    intro k N hR ht hc hk hE
    have hR0 := hR
    obtain ⟨hS, hI, -⟩ := hR0
    have hE : feL f c (k + 1) (si N 114 k.toNat (FX12_feltAt N ((3 * f) + k) (mi N 86 39))) = E := hE
    refine j_iload_n rfl rfl ?_
    refine j_iconst rfl ?_
    refine j_icmp_ge (tgt := 49) rfl (by decide) (by omega) (by omega) (by omega) (by omega) (fun hb21_1 => ?_) (fun hb21_1 => ?_)
    · skip
      exfalso; omega
    · skip
      refine j_aload_n rfl rfl ?_
      refine j_getR (q := 114) rfl f_X12_93 rfl (hS.lt (by decide)) (hS.k (by decide) (by decide)) (hS.r (by decide)) ?_
      refine j_iload_n rfl rfl ?_
      refine j_aload_n rfl rfl ?_
      refine j_iconst rfl ?_
      refine j_iload_n rfl rfl ?_
      refine j_imul rfl ?_
      refine j_iload_n rfl rfl ?_
      refine j_iadd rfl ?_
      refine j_aload_n rfl rfl ?_
      refine j_getI rfl f_X12_322 rfl (hS.lt (by decide)) (hS.k (by decide) (by decide)) ?_
      have u36_1 := mi_rng N 86 39
      refine j_callV (ci := 12) rfl okX12_feltAt c_X12_300 (ct_X12_feltAt hS hI (by omega) (by omega) (by omega) (by omega) (by omega) (by omega) (by omega) (by omega)) rfl rfl (hS.lt (by decide)) (hS.k (by decide) (by decide)) (by decide) rfl (Nat.le_of_ble_eq_true rfl) (by decide) (by decide) ?_
      rintro vq mq ⟨e1, e2⟩
      rw [e1, e2]
      clear e1 e2
      simp only [Option.toList_some, Option.toList_none, List.cons_append, List.nil_append]
      refine j_iast (n := 3) rfl (hS.lt (by decide)) (hS.k (by decide) (by decide)) (hS.n (by decide) (by decide)) (by omega) (by omega) (by first | decide | omega) ?_
      refine j_iinc rfl rfl (by decide) ?_
      refine j_goto (tgt := 19) rfl (by decide) ?_
      refine j_loc (ls' := [(0, vR 86), (1, vI f), (2, vI n), (3, vI (k + 1))]) rfl ?_
      have g := feltAt_rng hI ((3 * f) + k) (mi N 86 39)
      exact ih (k + 1) _ (hR.felt _ g.1 g.2) (by rw [mi_si_ne _ _ (fun q => absurd q.1 (by decide))]; exact ht) (by omega) (by omega) hE


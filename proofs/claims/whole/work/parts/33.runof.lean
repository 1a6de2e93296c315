theorem feL_keep (f : Int) : ∀ (c : Nat) (k : Int) (N : AM), RT N → RT (feL f c k N) ∧ Fr N (feL f c k N) ∧ ∀ j, mi (feL f c k N) 86 j = mi N 86 j := by
  intro c
  induction c with
  | zero => intro k N h; exact ⟨h, Fr.rf N, fun _ => rfl⟩
  | succ c ih =>
    intro k N h
    have g := feltAt_rng h.1.2.1 ((3 * f) + k) (mi N 86 39)
    have i := ih (k + 1) (si N 114 k.toNat (FX12_feltAt N ((3 * f) + k) (mi N 86 39))) (h.other (by decide) (by decide) (h.1.felt _ g.1 g.2))
    exact ⟨i.1, ((Fr.rf N).one (by decide) _ _).trans i.2.1, fun j => (i.2.2 j).trans (mi_si_ne _ _ (fun q => absurd q.1 (by decide)))⟩
theorem feL_same (f : Int) : ∀ (c : Nat) (k : Int) (N M : AM), SameP N M → SameP (feL f c k N) (feL f c k M) := by
  intro c
  induction c with
  | zero => intro k N M h; exact h
  | succ c ih =>
    intro k N M h
    refine ih (k + 1) _ _ ?_
    have e : FX12_feltAt M ((3 * f) + k) (mi M 86 39) = FX12_feltAt N ((3 * f) + k) (mi N 86 39) := by
      obtain ⟨L, rfl⟩ := h.ex
      rfl
    rw [e]
    exact h.si _ _ _
/-- a tick of the reference's run -/
def roT (f : Int) (N : AM) : AM := taM (feL f 3 0 N)
def roL (f : Int) : Nat → AM → AM
  | 0, N => N
  | c + 1, N => roL f c (si (roT f N) 86 39 (mi (roT f N) 86 39 + 1))

set_option maxRecDepth 20000 in
theorem lp_runOf_9 {G : QW} {m E : AM} {f n : Int} (hf0 : 0 ≤ f) (hf7 : f ≤ 7) (hn : n ≤ 200) (hf : 0 ≤ mi m 86 45 ∧ mi m 86 45 ≤ 10) (hLK : ∀ b j, 0 ≤ b → b < mi m 86 1 → 0 ≤ j → j < mi m 91 b.toNat → LK m b ((12 * b) + j)) : ∀ (c : Nat) (t : Int) (N M : AM), Fr m N → mi N 86 1 = mi m 86 1 → mi N 86 45 = mi m 86 45 → RT N → SameP N M → mi N 86 39 = t → t + c = n → 0 ≤ t → roL f c N = E → qJ G mX12_runOf { frames := 5, cells := 0, slots := 0, locals := 60 * 5 } (qF G (fun r m' => r = none ∧ SameP E m') 0 0) 9 [(0, vR 86), (1, vI f), (2, vI n)] [] M 0 0 := by
  intro c
  induction c with
  | zero =>
    intro t N M hfr hb1 hb45 hRN hs htN hc ht0 hE
    have hRM := hRN.of hs
    have hRM9 := hRM
    obtain ⟨⟨hS, hI, -⟩, -⟩ := hRM9
    have ht : mi M 86 39 = t := (hs.mi 86 39).trans htN
    refine j_aload_n rfl rfl ?_
    refine j_getI rfl f_X12_322 rfl (hS.lt (by decide)) (hS.k (by decide) (by decide)) ?_
    have u10_1 := mi_rng M 86 39
    refine j_iload_n rfl rfl ?_
    refine j_icmp_ge (tgt := 66) rfl (by decide) (by omega) (by omega) (by omega) (by omega) (fun hb14_1 => ?_) (fun hb14_1 => ?_)
    · skip
      refine j_vret rfl rfl ?_ rfl (Nat.le_refl _)
      have hE : N = E := hE
      subst hE
      exact ⟨rfl, hs⟩
    · skip
      exfalso; omega
  | succ c ih =>
    intro t N M hfr hb1 hb45 hRN hs htN hc ht0 hE
    have hRM := hRN.of hs
    have ht : mi M 86 39 = t := (hs.mi 86 39).trans htN
    have hF := feL_keep f 3 0 M hRM
    have hfF : 0 ≤ mi (feL f 3 0 M) 86 45 ∧ mi (feL f 3 0 M) 86 45 ≤ 10 := by rw [hF.2.2 45, hs.mi 86 45, hb45]; exact hf
    have hLF : ∀ b j, 0 ≤ b → b < mi (feL f 3 0 M) 86 1 → 0 ≤ j → j < mi (feL f 3 0 M) 91 b.toNat → LK (feL f 3 0 M) b ((12 * b) + j) := fun b j h0 h1 h2 h3 =>
      hF.2.1.prog (hs.LK (hfr.prog (hLK b j h0 (by rw [← hb1, ← hs.mi 86 1, ← hF.2.2 1]; exact h1) h2 (by rw [← hfr 91 (by decide), ← hs.mi 91, ← hF.2.1 91 (by decide)]; exact h3))))
    have hA := hF.1.all hfF hLF
    have hFN := feL_keep f 3 0 N hRN
    have hsF := feL_same f 3 0 N M hs
    have hAN : RT (roT f N) ∧ Fr (feL f 3 0 N) (roT f N) ∧ Fq (feL f 3 0 N) (roT f N) := hFN.1.all (by rw [← hsF.mi 86 45]; exact hfF) (fun b j h0 h1 h2 h3 => by
      have l := hLF b j h0 (by rw [hsF.mi 86 1]; exact h1) h2 (by rw [hsF.mi 91]; exact h3)
      obtain ⟨L, e⟩ := hsF.ex
      rw [e] at l
      exact l)
    have e39 : mi (roT f N) 86 39 = t := (hAN.2.2 39 (by decide)).trans ((hFN.2.2 39).trans htN)
    have back : ∀ M2, SameP (taM (feL f 3 0 M)) M2 → qJ G mX12_runOf { frames := 5, cells := 0, slots := 0, locals := 60 * 5 } (qF G (fun r m' => r = none ∧ SameP E m') 0 0) 9 [(0, vR 86), (1, vI f), (2, vI n)] [] (si M2 86 39 ((mi M2 86 39) + 1)) 0 0 := by
      intro M2 hs2
      have g : SameP (roT f N) M2 := (taM_same hsF).trans hs2
      have g2 : SameP (si (roT f N) 86 39 (mi (roT f N) 86 39 + 1)) (si M2 86 39 (mi M2 86 39 + 1)) := by
        rw [g.mi 86 39]
        exact g.si _ _ _
      refine ih (t + 1) _ _ ((hfr.trans (hFN.2.1.trans hAN.2.1)).one (by decide) _ _) ?_ ?_ (hAN.1.other (by decide) (by decide) (hAN.1.1.time (by omega) (by omega))) g2 ?_ (by omega) (by omega) hE
      · rw [mi_si_ne _ _ (by decide), hAN.2.2 1 (by decide), hFN.2.2 1]; exact hb1
      · rw [mi_si_ne _ _ (by decide), hAN.2.2 45 (by decide), hFN.2.2 45]; exact hb45
      · rw [mi_si_same _ _ _ (by omega) (by omega), e39]
    have J49 : qJ G mX12_runOf { frames := 5, cells := 0, slots := 0, locals := 60 * 5 } (qF G (fun r m' => r = none ∧ SameP E m') 0 0) 49 [(0, vR 86), (1, vI f), (2, vI n)] [] (feL f 3 0 M) 0 0 := by
      have hF9 := hF.1
      obtain ⟨⟨hS, hI, -⟩, -⟩ := hF9
      refine j_aload_n rfl rfl ?_
      refine j_callV (ci := 12) rfl okX12_tickAll c_X12_380 (ct_X12_tickAll hF.1 hfF hLF) rfl rfl (hS.lt (by decide)) (hS.k (by decide) (by decide)) (by decide) rfl (Nat.le_of_ble_eq_true rfl) (by decide) (by decide) ?_
      rintro vq M2 ⟨e1, hs2⟩
      rw [e1]
      clear e1
      simp only [Option.toList_some, Option.toList_none, List.cons_append, List.nil_append]
      have hR2 := hA.1.of hs2
      obtain ⟨⟨hS, hI, -⟩, -⟩ := hR2
      have e2 : mi M2 86 39 = t := (hs2.mi 86 39).trans ((hA.2.2 39 (by decide)).trans ((hF.2.2 39).trans ht))
      refine j_aload_n rfl rfl ?_
      refine j_dup rfl (Nat.ne_of_beq_eq_false rfl) ?_
      refine j_getI rfl f_X12_322 rfl (hS.lt (by decide)) (hS.k (by decide) (by decide)) ?_
      have u55_1 := mi_rng M2 86 39
      refine j_iconst rfl ?_
      refine j_iadd rfl ?_
      refine j_putI rfl f_X12_322 rfl (hS.lt (by decide)) (hS.k (by decide) (by decide)) ?_
      refine j_goto (tgt := 9) rfl (by decide) ?_
      exact back M2 hs2
    have hRM9 := hRM
    obtain ⟨⟨hS, hI, -⟩, -⟩ := hRM9
    refine j_aload_n rfl rfl ?_
    refine j_getI rfl f_X12_322 rfl (hS.lt (by decide)) (hS.k (by decide) (by decide)) ?_
    have u10_1 := mi_rng M 86 39
    refine j_iload_n rfl rfl ?_
    refine j_icmp_ge (tgt := 66) rfl (by decide) (by omega) (by omega) (by omega) (by omega) (fun hb14_1 => ?_) (fun hb14_1 => ?_)
    · skip
      exfalso; omega
    · skip
      refine j_iconst rfl ?_
      refine j_istore_n rfl (by decide) ?_
      refine j_loc (ls' := [(0, vR 86), (1, vI f), (2, vI n), (3, vI 0)]) rfl ?_
      exact lp_runOf_19 (t := t) hf0 hf7 ht0 (by omega) J49 3 0 M hRM.1 ht rfl (Int.le_refl 0) rfl


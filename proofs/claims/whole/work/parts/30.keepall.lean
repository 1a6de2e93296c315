theorem taL_keep {m : AM} (hf : 0 ≤ mi m 86 45 ∧ mi m 86 45 ≤ 10) (hLK : ∀ b j, 0 ≤ b → b < mi m 86 1 → 0 ≤ j → j < mi m 91 b.toNat → LK m b ((12 * b) + j)) : ∀ (c : Nat) (b : Int) (N : AM), Fr m N → Fq m N → RT N → b + c = mi m 86 1 → 0 ≤ b → RT (taL c b N) ∧ Fr m (taL c b N) ∧ Fq m (taL c b N) := by
  intro c
  induction c with
  | zero => intro b N h1 h2 h3 _ _; exact ⟨h3, h1, h2⟩
  | succ c ih =>
    intro b N hfr hfq hR hc hb
    have hfN : 0 ≤ mi N 86 45 ∧ mi N 86 45 ≤ 10 := by rw [hfq 45 (by decide)]; exact hf
    have hT := bxT_keep hR hfN (b := b) (fun j h0 h1 => hfr.prog (hLK b j hb (by omega) h0 (by rw [← hfr 91 (by decide)]; exact h1)))
    exact ih (b + 1) (bxT N b) (hfr.trans hT.2.1) (hfq.trans hT.2.2) hT.1 (by omega) (by omega)
/-- a tick of all keeps the ranges, the programs, the single numbers -/
theorem RT.all {m : AM} (h : RT m) (hf : 0 ≤ mi m 86 45 ∧ mi m 86 45 ≤ 10) (hLK : ∀ b j, 0 ≤ b → b < mi m 86 1 → 0 ≤ j → j < mi m 91 b.toNat → LK m b ((12 * b) + j)) : RT (taM m) ∧ Fr m (taM m) ∧ Fq m (taM m) := by
  have hbx := h.1.2.1.s 86 1 0 6 (by decide)
  have k := taL_keep (m := cpA m) (by rw [cpA_Fq m 45 (by decide)]; exact hf) (fun b j h0 h1 h2 h3 => (cpA_Fr m).prog (hLK b j h0 (by rw [← cpA_Fq m 1 (by decide)]; exact h1) h2 (by rw [← cpA_Fr m 91 (by decide)]; exact h3))) (mi m 86 1).toNat 0 (cpA m) (Fr.rf _) (Fq.rf _) h.ahead (by rw [cpA_Fq m 1 (by decide)]; omega) (Int.le_refl 0)
  exact ⟨k.1, (cpA_Fr m).trans k.2.1, (cpA_Fq m).trans k.2.2⟩
theorem taL_same : ∀ (c : Nat) (b : Int) (N M : AM), SameP N M → SameP (taL c b N) (taL c b M) := by
  intro c
  induction c with
  | zero => intro b N M h; exact h
  | succ c ih => intro b N M h; exact ih (b + 1) _ _ (bxT_same h b)
theorem taM_same {m M : AM} (h : SameP m M) : SameP (taM m) (taM M) := by
  unfold taM
  rw [h.mi 86 1]
  refine taL_same _ _ _ _ ?_
  obtain ⟨L, rfl⟩ := h.ex
  exact ⟨rfl, rfl, h.2.2⟩


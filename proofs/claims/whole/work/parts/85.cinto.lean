/-- the reader's ground, with an empty program at q -/
def BS (q : Nat) (m N : AM) : Prop := N.2 = (sr m 1 4 (some q)).2 ∧ ∀ o j : Nat, ¬ (o = q ∧ 5 ≤ j ∧ j ≤ 8) → ¬ (o = 1 ∧ (j = 2 ∨ j = 3)) → N.1 o j = m.1 o j
theorem BS.cell {q : Nat} {m N : AM} (h : BS q m N) {o j : Nat} (h1 : ¬ (o = q ∧ 5 ≤ j ∧ j ≤ 8)) (h2 : ¬ (o = 1 ∧ (j = 2 ∨ j = 3))) : mi N o j = mi m o j := by
  show (zi (N.1 o j)).toInt = (zi (m.1 o j)).toInt
  rw [h.2 o j h1 h2]
theorem BS.ch {q : Nat} {m N : AM} (h : BS q m N) (hq : 62 ≤ q) : chC N = chC m := by
  funext x
  unfold chC
  rw [h.cell (by omega) (by omega), h.cell (by omega) (by omega)]
theorem St.into {m : AM} (h : St m) (v : Option Nat) : St (sr m 1 4 v) := ⟨h.1, h.2.1, fun r hr => by
  have e : ¬ (r.1 = 1 ∧ r.2.1 = 4) := (by decide +kernel : ∀ r ∈ rL, ¬ (r.1 = 1 ∧ r.2.1 = 4)) r hr
  rw [mr_sr_ne _ _ e]
  exact h.2.2 r hr⟩
theorem ObA.into {m : AM} {q : Nat} (h : ObA m q 5 fsProg) (hq : q ≠ 1) (v : Option Nat) : ObA (sr m 1 4 v) q 5 fsProg := ⟨h.1, h.2.1, fun r hr => ⟨(mr_sr_ne _ _ (by omega)).trans (h.2.2 r hr).1, (h.2.2 r hr).2⟩⟩
theorem clear_bs {q : Nat} {m : AM} (hS : St m) (hO : ObA m q 5 fsProg) (hq : 62 ≤ q) (hY : BY m) (N : AM) (hN : N = FX5_clear (sr (si (si m 1 2 0) 1 3 0) 1 4 (some q)) q) : BS q m N ∧ CG q N ∧ CS q N (.ok (0, [])) ∧ IV q N [] := by
  have hb : BS q m N := by
    rw [hN]
    refine ⟨rfl, fun o j h1 h2 => ?_⟩
    show (if o = q ∧ j = 8 then (0 : Int) else if o = q ∧ j = 7 then 0 else if o = q ∧ j = 6 then 0 else if o = q ∧ j = 5 then 0 else if o = 1 ∧ j = 3 then 0 else if o = 1 ∧ j = 2 then 0 else m.1 o j) = m.1 o j
    rw [if_neg (by omega), if_neg (by omega), if_neg (by omega), if_neg (by omega), if_neg (by omega), if_neg (by omega)]
  have n : ∀ o j, mi N o j = if o = q ∧ j = 8 then 0 else if o = q ∧ j = 7 then 0 else if o = q ∧ j = 6 then 0 else if o = q ∧ j = 5 then 0 else if o = 1 ∧ j = 3 then 0 else if o = 1 ∧ j = 2 then 0 else mi m o j := by
    intro o j
    rw [hN]
    unfold FX5_clear
    simp only [mi_si, mi_sr]
    rfl
  refine ⟨hb, ⟨?_, hq, ?_, ?_, ?_, ?_⟩, ⟨?_, ?_, ?_, fun i hi => absurd hi (by simp)⟩, ⟨fun i hi => absurd hi (by simp), fun i hi => ?_, fun i hi => ?_⟩⟩
  · rw [hN]
    exact (hS.into (some q)).sub rfl
  · have := hO.into (by omega) (some q)
    unfold ObA mz mk mn mr at *
    rw [hb.1]
    exact this
  · unfold mr
    rw [hb.1]
    exact mr_sr_same m 1 4 (some q)
  · rw [hb.cell (by omega) (by omega)]
    exact hY.1
  · intro j
    rw [hb.cell (by omega) (by omega)]
    exact hY.2 j
  · rw [n, if_neg (by omega), if_neg (by omega), if_neg (by omega), if_neg (by omega), if_neg (by omega), if_pos ⟨rfl, rfl⟩]
  · rw [n, if_neg (by omega), if_neg (by omega), if_neg (by omega), if_neg (by omega), if_pos ⟨rfl, rfl⟩]
  · rw [n, if_neg (by omega), if_neg (by omega), if_neg (by omega), if_pos ⟨rfl, rfl⟩]
    rfl
  · rw [n, if_neg (by omega), if_pos ⟨rfl, rfl⟩, bt_0]
    simp
  · rw [n, if_pos ⟨rfl, rfl⟩, bt_0]
    simp

set_option maxRecDepth 20000 in
set_option maxHeartbeats 4000000 in
theorem ct_X6_readInto {G : QW} {q : Nat} {m : AM} (hS : St m) (hO : ObA m q 5 fsProg) (hq : 62 ≤ q) (hY : BY m) : qM G mX6_readInto 53 0 0 [vR 1, vR q] m (fun x m' => ∃ N, BS q m N ∧ PRC q N (prX (chC m) false (mi m 1 1)) x m') := by
  refine qM.intro okX6_readInto (Nat.le_of_ble_eq_true rfl) ?_
  have hRB := RBn 53
  refine j_aload_n rfl rfl ?_
  refine j_iconst rfl ?_
  refine j_putI rfl f_X6_19 rfl (hS.lt (by decide)) (hS.k (by decide) (by decide)) ?_
  refine j_aload_n rfl rfl ?_
  refine j_iconst rfl ?_
  refine j_putZ rfl f_X6_22 (by omega) rfl (hS.lt (by decide)) (hS.k (by decide) (by decide)) ?_
  refine j_aload_n rfl rfl ?_
  refine j_aload_n rfl rfl ?_
  refine j_putR rfl f_X6_26 (fun _ => ⟨rfl, rfl⟩) rfl (hS.lt (by decide)) (hS.k (by decide) (by decide)) ?_
  have hSb : St (sr (si (si m 1 2 0) 1 3 0) 1 4 (some q)) := hS.into (some q)
  have hOb : ObA (sr (si (si m 1 2 0) 1 3 0) 1 4 (some q)) q 5 fsProg := ObA.into (m := si (si m 1 2 0) 1 3 0) hO (by omega) (some q)
  refine j_aload_n rfl rfl ?_
  refine j_callV (ci := 5) rfl okX5_clear c_X6_30 (ct_X5_clear hOb) rfl rfl hOb.1 hOb.2.1 (by decide) rfl (Nat.le_of_ble_eq_true rfl) (RB.call hRB (by omega) (by decide)) ⟨Nat.le_refl _, Nat.le_refl _⟩ ?_
  rintro vq mq ⟨e1, e2⟩
  rw [e1, e2]
  clear e1 e2
  simp only [Option.toList_some, Option.toList_none, List.cons_append, List.nil_append]
  refine j_iconst rfl ?_
  refine j_istore_n rfl (by decide) ?_
  refine j_loc (ls' := [(0, vR 1), (1, vR q), (2, vI 0)]) rfl ?_
  obtain ⟨c1, c2, c3, c4⟩ := clear_bs hS hO hq hY _ rfl
  generalize FX5_clear (sr (si (si m 1 2 0) 1 3 0) 1 4 (some q)) q = N at c1 c2 c3 c4 ⊢
  have ech := c1.ch hq
  have el : mi N 1 1 = mi m 1 1 := c1.cell (by omega) (by omega)
  have hl0 := c2.2.2.2.2.1
  refine lp_readInto_21 (R := prX (chC m) false (mi m 1 1)) c2 (fun x m' e => ⟨N, c1, e⟩) 13 0 N 0 [] [] (FR2.rf q N) c3 (fun s e => by simp only [Except.ok.injEq] at e; subst e; exact ⟨by decide, hl0.1, by decide⟩) c4 rfl (by decide) (by decide) (by rw [ech, el]; rfl)


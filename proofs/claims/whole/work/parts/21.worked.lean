def cdX (m : AM) (k : Int) : Nat × Int := (opM (mi m 98 k.toNat), mi m 99 k.toNat)
/-- what an INPUT gives the model's box b -/
def inM (m : AM) (b i : Int) : Int × Int :=
  if mi m 89 (4 * b + i).toNat < 0 then (0, 0)
  else if mi m 110 (4 * (mi m 89 (4 * b + i).toNat / 10) + mi m 89 (4 * b + i).toNat % 10).toNat > 0 then
    (if mi m 87 b.toNat = 2 then (0, 9000 + mi m 110 (4 * (mi m 89 (4 * b + i).toNat / 10) + mi m 89 (4 * b + i).toNat % 10).toNat) else (4, 0))
  else (0, mi m 109 (4 * (mi m 89 (4 * b + i).toNat / 10) + mi m 89 (4 * b + i).toNat % 10).toNat)
def rdM (m : AM) (b : Int) (w : Nat) (v : Int) : Int × Int :=
  if w = 0 then (0, v) else if w = 1 then (0, mi m 106 (8 * b + v).toNat) else if w = 2 then inM m b v else if w = 3 then (0, mi m 114 v.toNat) else if w = 4 then (0, mi m 86 39) else (0, mi m 86 40)
theorem FX12_readInput_sp (m : AM) (b i n : Int) : FX12_readInput m b i n = if (inM m b i).1 ≠ 0 then (4, m) else (0, sl m 115 n.toNat (inM m b i).2) := by
  unfold FX12_readInput inM
  by_cases h1 : mi m 89 (4 * b + i).toNat < 0
  · have h2 : ¬ mi m 89 (4 * b + i).toNat ≥ 0 := by omega
    simp [h1, h2]
  · have h2 : mi m 89 (4 * b + i).toNat ≥ 0 := by omega
    by_cases h3 : mi m 110 (4 * (mi m 89 (4 * b + i).toNat / 10) + mi m 89 (4 * b + i).toNat % 10).toNat > 0
    · have h4 : ¬ mi m 110 (4 * (mi m 89 (4 * b + i).toNat / 10) + mi m 89 (4 * b + i).toNat % 10).toNat ≤ 0 := by omega
      by_cases h5 : mi m 87 b.toNat = 2
      · simp [h1, h2, h3, h4, h5]
      · simp [h1, h2, h3, h4, h5]
    · have h4 : mi m 110 (4 * (mi m 89 (4 * b + i).toNat / 10) + mi m 89 (4 * b + i).toNat % 10).toNat ≤ 0 := by omega
      simp [h1, h2, h3, h4]
theorem opM_cases {a : Int} (h : opM a ≤ 16) : (a = 1 ∧ opM a = 0) ∨ (a = 2 ∧ opM a = 1) ∨ (a = 3 ∧ opM a = 2) ∨ (a = 4 ∧ opM a = 3) ∨ (a = 5 ∧ opM a = 4) ∨ (a = 6 ∧ opM a = 5) ∨ (a = 7 ∧ opM a = 6) ∨ (a = 124 ∧ opM a = 7) ∨ (a = 38 ∧ opM a = 8) ∨ (a = 60 ∧ opM a = 9) ∨ (a = 61 ∧ opM a = 10) ∨ (a = 62 ∧ opM a = 11) ∨ (a = 43 ∧ opM a = 12) ∨ (a = 45 ∧ opM a = 13) ∨ (a = 42 ∧ opM a = 14) ∨ (a = 47 ∧ opM a = 15) ∨ (a = 37 ∧ opM a = 16) := by
  unfold opM at h ⊢
  cases hf : opL.find? (fun q => q.1 == a) with
  | none => rw [hf] at h; exact absurd h (by decide)
  | some q =>
    have hm := List.mem_of_find?_eq_some hf
    have he : q.1 = a := by have := List.find?_some hf; exact beq_iff_eq.mp this
    have hq : q = (1, 0) ∨ q = (2, 1) ∨ q = (3, 2) ∨ q = (4, 3) ∨ q = (5, 4) ∨ q = (6, 5) ∨ q = (7, 6) ∨ q = (124, 7) ∨ q = (38, 8) ∨ q = (60, 9) ∨ q = (61, 10) ∨ q = (62, 11) ∨ q = (43, 12) ∨ q = (45, 13) ∨ q = (42, 14) ∨ q = (47, 15) ∨ q = (37, 16) := by simpa [opL] using hm
    rcases hq with rfl | rfl | rfl | rfl | rfl | rfl | rfl | rfl | rfl | rfl | rfl | rfl | rfl | rfl | rfl | rfl | rfl <;> (dsimp only at he; subst he; decide)
theorem FX12_twoOf_sp (m : AM) {a : Int} {x y : Int} (hx : -1000000000 ≤ x ∧ x ≤ 1000000000) (hw : 7 ≤ opM a) (hw2 : opM a ≤ 16) (h0 : (a = 47 ∨ a = 37) → y ≠ 0) : FX12_twoOf m a x y = (sJN (opM a) x y).2 := by
  rcases opM_cases hw2 with ⟨rfl, e⟩ | ⟨rfl, e⟩ | ⟨rfl, e⟩ | ⟨rfl, e⟩ | ⟨rfl, e⟩ | ⟨rfl, e⟩ | ⟨rfl, e⟩ | ⟨rfl, e⟩ | ⟨rfl, e⟩ | ⟨rfl, e⟩ | ⟨rfl, e⟩ | ⟨rfl, e⟩ | ⟨rfl, e⟩ | ⟨rfl, e⟩ | ⟨rfl, e⟩ | ⟨rfl, e⟩ | ⟨rfl, e⟩ <;> rw [e] at hw ⊢ <;> first | (exfalso; omega) | (unfold FX12_twoOf sJN; simp; done) | (unfold FX12_twoOf sJN; simp; (repeat' split) <;> simp_all <;> omega) | (unfold FX12_twoOf sJN; simp; (repeat' split) <;> simp_all)
/-- rows on which numbers are piled only while something is worked out -/
def scr (o : Nat) : Prop := o = 115 ∨ o = 126 ∨ o = 127
def SameP (m m' : AM) : Prop := m'.1 = m.1 ∧ m'.2.2 = m.2.2 ∧ ∀ o, ¬ scr o → m'.2.1 o = m.2.1 o
theorem SameP.rf (m : AM) : SameP m m := ⟨rfl, rfl, fun _ _ => rfl⟩
theorem SameP.scrap {m m' : AM} (h : SameP m m') {p : Nat} (hp : scr p) (i : Nat) (v : Int) : SameP m (sl m' p i v) := ⟨h.1, h.2.1, fun o ho => by
  show u2 m'.2.1 p i v o = _
  rw [← h.2.2 o ho]
  funext j
  exact u2_ne (fun e => ho (by rw [e]; exact hp))⟩
theorem SameP.sl {m m' : AM} (h : SameP m m') (i : Nat) (v : Int) : SameP m (sl m' 115 i v) := h.scrap (Or.inl rfl) i v
def RpW (m : AM) (E : Int × (Nat → Int)) : Option Vl → AM → Prop := fun r m' => SameP m m' ∧ r = some (vI E.1) ∧ (E.1 = 0 → ml m' 115 0 = E.2 0 ∧ -1000000000 ≤ E.2 0 ∧ E.2 0 ≤ 1000000000)
theorem ml_up {m : AM} {i : Int} {v : Int} (h : -9223372036854775808 ≤ v) (h2 : v < 9223372036854775808) : ml (sl m 115 i.toNat v) 115 = sUp (ml m 115) i v := by
  funext j
  unfold sUp
  by_cases hj : j = i.toNat
  · rw [if_pos hj, hj, ml_sl_same m 115 i.toNat h h2]
  · rw [if_neg hj, ml_sl_ne m v (fun q => hj q.2)]

set_option maxRecDepth 20000 in
set_option maxHeartbeats 4000000 in
theorem ct_X12_isMuch {G : QW} {m : AM} {v : Int} (h3 : -9223372036854775808 ≤ v) (h4 : v < 9223372036854775808) : qM G mX12_isMuch 0 0 0 [vL v] m (fun r m' => r = some (vI (if v > 1000000000 ∨ v < -1000000000 then 1 else 0)) ∧ m' = m) := by
  refine qM.intro okX12_isMuch (Nat.le_of_ble_eq_true rfl) ?_
  refine j_lload_n rfl rfl ?_
  refine j_ldc2 (v := 1000000000) rfl k_X12_312 ?_
  refine j_lc_gt (tgt := 16) rfl rfl (by decide) (by omega) (by omega) (by omega) (by omega) (fun hb4_1 => ?_) (fun hb4_1 => ?_)
  · skip
    refine j_iconst rfl ?_
    refine j_goto (tgt := 21) rfl (by decide) ?_
    refine j_zret rfl rfl (by decide) ?_ rfl (Nat.le_refl _)
    exact ⟨by first | (rw [if_pos (by omega)]; done) | (rw [if_neg (by omega)]; done) | (exfalso; omega), rfl⟩
  · skip
    refine j_lload_n rfl rfl ?_
    refine j_ldc2 (v := -1000000000) rfl k_X12_314 ?_
    refine j_lc_ge (tgt := 20) rfl rfl (by decide) (by omega) (by omega) (by omega) (by omega) (fun hb12_1 => ?_) (fun hb12_1 => ?_)
    · skip
      refine j_iconst rfl ?_
      refine j_zret rfl rfl (by decide) ?_ rfl (Nat.le_refl _)
      exact ⟨by first | (rw [if_pos (by omega)]; done) | (rw [if_neg (by omega)]; done) | (exfalso; omega), rfl⟩
    · skip
      refine j_iconst rfl ?_
      refine j_goto (tgt := 21) rfl (by decide) ?_
      refine j_zret rfl rfl (by decide) ?_ rfl (Nat.le_refl _)
      exact ⟨by first | (rw [if_pos (by omega)]; done) | (rw [if_neg (by omega)]; done) | (exfalso; omega), rfl⟩


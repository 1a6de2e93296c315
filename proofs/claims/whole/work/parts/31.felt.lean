/-- what a FELT is at a tick stays small -/
theorem feltAt_rng {m : AM} (hI : IM m) (k t : Int) : -100000 ≤ FX12_feltAt m k t ∧ FX12_feltAt m k t ≤ 100000 := by
  have c := hI.a 103 0 99999 (by decide) k.toNat
  have r1 := hI.a 105 (-99999) 99999 (by decide) ((200 * k) + ((mi m 104 k.toNat) - 1)).toNat
  have r2 := hI.a 105 (-99999) 99999 (by decide) ((200 * k) + t).toNat
  unfold FX12_feltAt FX12_heldBy
  repeat' split
  all_goals omega
theorem RF.felt {m : AM} (h : RF m) (k : Nat) {v : Int} (h1 : -100000 ≤ v) (h2 : v ≤ 100000) : RF (si m 114 k v) := by
  obtain ⟨a, b, c, d, e, f, g, i, w⟩ := h
  have n : ∀ p, p ≠ 114 → ∀ j, mi (si m 114 k v) p j = mi m p j := fun p hp j => mi_si_ne m v (fun q => hp q.1)
  refine ⟨a, b.oneA (by decide) (by decide) (by decide) (by decide) (by decide) (by decide), fun j => ?_, fun j => ?_, fun j => ?_, fun j => ?_, ?_, ?_, fun j => ?_⟩
  · rw [n 110 (by decide)]; exact c j
  · rw [n 106 (by decide)]; exact d j
  · rw [n 109 (by decide)]; exact e j
  · by_cases e : j = k
    · rw [e, mi_si_same m 114 k (by omega) (by omega)]; exact ⟨h1, h2⟩
    · rw [mi_si_ne m v (fun q => e q.2)]; exact f j
  · rw [n 86 (by decide)]; exact g
  · rw [n 86 (by decide)]; exact i
  · rw [n 89 (by decide)]; exact w j
theorem RF.time {m : AM} (h : RF m) {v : Int} (h1 : 0 ≤ v) (h2 : v ≤ 200) : RF (si m 86 39 v) := by
  obtain ⟨a, b, c, d, e, f, g, i, w⟩ := h
  have n : ∀ p, p ≠ 86 → ∀ j, mi (si m 86 39 v) p j = mi m p j := fun p hp j => mi_si_ne m v (fun q => hp q.1)
  refine ⟨a, b.one (by decide) (by decide) (by decide) (by decide) (by decide) (by decide), fun j => ?_, fun j => ?_, fun j => ?_, fun j => ?_, ?_, ?_, fun j => ?_⟩
  · rw [n 110 (by decide)]; exact c j
  · rw [n 106 (by decide)]; exact d j
  · rw [n 109 (by decide)]; exact e j
  · rw [n 114 (by decide)]; exact f j
  · rw [mi_si_same m 86 39 (by omega) (by omega)]; exact ⟨h1, h2⟩
  · rw [mi_si_ne m v (by decide)]; exact i
  · rw [n 89 (by decide)]; exact w j


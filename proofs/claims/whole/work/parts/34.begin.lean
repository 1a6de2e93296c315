theorem RT.fill {m : AM} (h : RT m) {o : Nat} (ho : o = 106 ∨ o = 107 ∨ o = 108 ∨ o = 111 ∨ o = 112 ∨ o = 113) (x y : Int) {v : Int} (h1 : -1000000 ≤ v) (h2 : v ≤ 1000000) (h8 : o = 108 → 0 ≤ v ∧ v ≤ 10) : RT (fil m o x y v) ∧ Fr m (fil m o x y v) ∧ ∀ j, mi (fil m o x y v) 86 j = mi m 86 j := by
  obtain ⟨⟨a, b', c, d, e, f, g, i, w⟩, r, t⟩ := h
  have n : ∀ p, p ≠ o → ∀ j, mi (fil m o x y v) p j = mi m p j := fun p hp j => by rw [mi_fil, if_neg (fun q => hp q.1)]
  have u : ∀ (p j : Nat) (lo hi : Int), lo ≤ mi m p j ∧ mi m p j ≤ hi → (p = o → lo ≤ v ∧ v ≤ hi) → lo ≤ mi (fil m o x y v) p j ∧ mi (fil m o x y v) p j ≤ hi := by
    intro p j lo hi hm hv
    rw [mi_fil]
    split
    · next q =>
      rw [zi_toInt (by omega) (by omega)]
      exact hv q.1
    · exact hm
  have s1 : ∀ q ∈ imS, q.1 ≠ o := by rcases ho with rfl | rfl | rfl | rfl | rfl | rfl <;> decide
  have s2 : ∀ q ∈ imA, q.1 ≠ o := by rcases ho with rfl | rfl | rfl | rfl | rfl | rfl <;> decide
  refine ⟨⟨⟨a, ⟨fun q hq => ?_, fun q hq j => ?_, fun j hj => ?_⟩, fun j => ?_, fun j => ?_, fun j => ?_, fun j => ?_, ?_, ?_, fun j => ?_⟩, fun j => ?_, fun j => ?_⟩, fun p hp j => ?_, fun j => n 86 (by omega) j⟩
  · rw [n q.1 (s1 q hq)]
    exact b'.1 q hq
  · rw [n q.1 (s2 q hq)]
    exact b'.2.1 q hq j
  · rw [n 139 (by omega), n 86 (by omega), n 0 (by omega), n (68 + 3 * j) (by omega)]
    exact b'.2.2 j hj
  · rw [n 110 (by omega)]; exact c j
  · exact u 106 j _ _ (d j) (fun _ => ⟨h1, h2⟩)
  · rw [n 109 (by omega)]; exact e j
  · rw [n 114 (by omega)]; exact f j
  · rw [n 86 (by omega)]; exact g
  · rw [n 86 (by omega)]; exact i
  · rw [n 89 (by omega)]; exact w j
  · exact u 107 j _ _ (r j) (fun _ => ⟨h1, h2⟩)
  · exact u 108 j _ _ (t j) (fun q => h8 q.symm)
  · have hq : p ≠ o := by
      rcases ho with rfl | rfl | rfl | rfl | rfl | rfl <;> exact (by decide : ∀ p ∈ ([88, 91, 92, 93, 94, 95, 96, 97, 98, 99] : List Nat), p ≠ _) p hp
    exact n p hq j


/-! what a text gives that was read rightly -/
theorem sWF_hgt {code : Int → Nat × Int} : ∀ (w : List (Nat × Int)) (k n : Int), 0 ≤ n → hgt w n = some 1 → (∀ i : Nat, i < w.length → code (k + i) = w.getD i (0, 0)) → sWF code w.length k n
  | [], k, n, _, h, _ => by
    simp only [hgt, Option.some.injEq] at h
    exact h
  | (x, v) :: t, k, n, h0, h, hc => by
    have e0 : code k = (x, v) := by
      have q := hc 0 (Nat.succ_pos _)
      rw [show k + ((0 : Nat) : Int) = k by omega] at q
      exact q
    have et : ∀ i : Nat, i < t.length → code (k + 1 + i) = t.getD i (0, 0) := fun i hi => by
      have q := hc (i + 1) (Nat.succ_lt_succ hi)
      rw [show k + ((i + 1 : Nat) : Int) = k + 1 + i by omega] at q
      exact q
    show 0 ≤ n ∧ _
    rw [e0]
    dsimp only
    refine ⟨h0, ?_⟩
    unfold hgt at h
    by_cases c1 : x < 6
    · rw [if_pos c1] at h
      by_cases c2 : (x = 0 → 0 ≤ v ∧ v ≤ 99999) ∧ (x = 1 → 0 ≤ v ∧ v ≤ 7) ∧ (x = 2 → 0 ≤ v ∧ v ≤ 3) ∧ (x = 3 → 0 ≤ v ∧ v ≤ 2)
      · rw [if_pos c2] at h
        exact Or.inl ⟨c1, c2.1, c2.2.1, c2.2.2.1, c2.2.2.2, sWF_hgt t (k + 1) (n + 1) (by omega) h et⟩
      · rw [if_neg c2] at h; exact absurd h (by simp)
    · rw [if_neg c1] at h
      by_cases c2 : x = 6
      · rw [if_pos c2] at h
        by_cases c3 : 1 ≤ n
        · rw [if_pos c3] at h
          exact Or.inr (Or.inl ⟨c2, c3, sWF_hgt t (k + 1) n h0 h et⟩)
        · rw [if_neg c3] at h; exact absurd h (by simp)
      · rw [if_neg c2] at h
        by_cases c3 : x ≤ 16
        · rw [if_pos c3] at h
          by_cases c4 : 2 ≤ n
          · rw [if_pos c4] at h
            exact Or.inr (Or.inr ⟨by omega, c3, c4, sWF_hgt t (k + 1) (n - 1) (by omega) h et⟩)
          · rw [if_neg c4] at h; exact absurd h (by simp)
        · rw [if_neg c3] at h; exact absurd h (by simp)
/-- a line's words within all of the text's -/
def RecOK (ws : List (Nat × Int)) (r : LRec) : Prop := (0 ≤ r.1 ∧ r.1 ≤ 1) ∧ (0 ≤ r.2.2.2.1 ∧ r.2.2.2.1 ≤ 1) ∧ ((0 ≤ r.2.2.2.2.1 ∧ r.2.2.2.2.1 ≤ 7) ∨ (10 ≤ r.2.2.2.2.1 ∧ r.2.2.2.2.1 ≤ 13)) ∧ ∃ w0 w1 w2 w3 : List (Nat × Int), ws = w0 ++ w1 ++ w2 ++ w3 ∧ r.2.1 = w0.length ∧ r.2.2.1 = (w0 ++ w1).length ∧ r.2.2.2.2.2 = (w0 ++ w1 ++ w2).length ∧ (w1 = [] ∨ ∀ n, 0 ≤ n → hgt w1 n = some (n + 1)) ∧ ∀ n, 0 ≤ n → hgt w2 n = some (n + 1)
theorem RecOK.more {ws : List (Nat × Int)} {r : LRec} (h : RecOK ws r) (v : List (Nat × Int)) : RecOK (ws ++ v) r := by
  obtain ⟨a, b, c, w0, w1, w2, w3, e, d⟩ := h
  exact ⟨a, b, c, w0, w1, w2, w3 ++ v, by rw [e, List.append_assoc], d⟩
theorem prL_ok {c : Int → Int} {n : Int} (hc : ∀ x, n ≤ x → c x < 0) (six : Bool) : ∀ (x : Nat) (l : Int) (a : Int) (w : List (Nat × Int)) (rs : List LRec) (z : PSt × List LRec), 0 ≤ a → a ≤ n → (w.length : Int) ≤ a → (rs.length : Int) = l → l + x = 13 → (∀ r ∈ rs, RecOK w r) → prL c six n x l (a, w) rs = .ok z → (∀ r ∈ z.2, RecOK z.1.2 r) ∧ (1 ≤ z.2.length ∧ z.2.length ≤ 12) ∧ (z.1.2.length : Int) ≤ n := by
  intro x
  induction x with
  | zero =>
    intro l a w rs z _ _ _ _ _ _ h
    exact absurd h (by simp [prL])
  | succ x ih =>
    intro l a w rs z h0 h1 hw hl hx hr h
    simp only [prL] at h
    by_cases h12 : l = 12
    · rw [if_pos h12] at h; exact absurd h (by simp)
    · rw [if_neg h12] at h
      have gd := pLine_good (c := c) (N := n) hc six (w := w) h0 h1
      cases hres : pLine c six (a, w) with
      | error p => rw [hres] at h; exact absurd h (by simp)
      | ok y =>
        rw [hres] at h
        dsimp only at h
        obtain ⟨g1, g2, w1, w2, g3, g4, g5, g6, g7, g8, g9, g10, g11, g12⟩ := gd.1 y hres
        have ln : (y.1.2.length : Int) ≤ y.1.1 := by
          rw [g3, List.append_assoc, List.length_append]
          omega
        have nr : RecOK y.1.2 y.2 := ⟨g10, g11, g12, w, w1, w2, [], by rw [List.append_nil]; exact g3, g5, g6, by rw [g7, g3], g8, g9⟩
        have all : ∀ r ∈ rs ++ [y.2], RecOK y.1.2 r := fun r hm => by
          rcases List.mem_append.mp hm with q | q
          · have := (hr r q).more (w1 ++ w2)
            rw [g3, List.append_assoc]
            exact this
          · rw [List.mem_singleton.mp q]; exact nr
        have len : ((rs ++ [y.2]).length : Int) = l + 1 := by rw [List.length_append]; show ((rs.length + 1 : Nat) : Int) = _; omega
        by_cases h59 : c y.1.1 = 59
        · rw [if_pos h59] at h
          have := lt_end (c := c) hc (a := y.1.1) (by omega)
          exact ih (l + 1) (y.1.1 + 1) y.1.2 (rs ++ [y.2]) z (by omega) (by omega) (by omega) len (by omega) all h
        · rw [if_neg h59] at h
          by_cases hlt : y.1.1 < n
          · rw [if_pos hlt] at h; exact absurd h (by simp)
          · rw [if_neg hlt] at h
            simp only [Except.ok.injEq] at h
            subst h
            exact ⟨all, by show 1 ≤ (rs ++ [y.2]).length ∧ (rs ++ [y.2]).length ≤ 12; omega, by show (y.1.2.length : Int) ≤ n; omega⟩
theorem prX_ok {c : Int → Int} {n : Int} (hc : ∀ x, n ≤ x → c x < 0) (hn : 0 ≤ n) (six : Bool) {z : PSt × List LRec} (h : prX c six n = .ok z) : (∀ r ∈ z.2, RecOK z.1.2 r) ∧ (1 ≤ z.2.length ∧ z.2.length ≤ 12) ∧ (z.1.2.length : Int) ≤ n :=
  prL_ok hc six 13 0 0 [] [] z (Int.le_refl 0) hn (Int.le_refl 0) rfl rfl (fun r hr => absurd hr List.not_mem_nil) h
theorem getD_app {w0 w1 w2 : List (Nat × Int)} {i : Nat} (h : i < w1.length) : (w0 ++ w1 ++ w2).getD (w0.length + i) (0, 0) = w1.getD i (0, 0) := by
  rw [List.append_assoc, List.getD_eq_getElem?_getD, List.getD_eq_getElem?_getD, List.getElem?_append_right (by omega), Nat.add_sub_cancel_left, List.getElem?_append_left h]
/-- its words are well formed, wherever they lie -/
theorem RecOK.wf {ws : List (Nat × Int)} {r : LRec} (h : RecOK ws r) {code : Int → Nat × Int} {k : Int} (hc : ∀ i : Nat, i < ws.length → code (k + i) = ws.getD i (0, 0)) : (0 ≤ r.2.1 ∧ r.2.1 ≤ r.2.2.1 ∧ r.2.2.1 ≤ r.2.2.2.2.2 ∧ r.2.2.2.2.2 ≤ ws.length) ∧ (r.2.1 < r.2.2.1 → sWF code (r.2.2.1 - r.2.1).toNat (k + r.2.1) 0) ∧ sWF code (r.2.2.2.2.2 - r.2.2.1).toNat (k + r.2.2.1) 0 := by
  obtain ⟨-, -, -, w0, w1, w2, w3, e, e1, e2, e3, h1, h2⟩ := h
  rw [e1, e2, e3]
  have l : ws.length = w0.length + w1.length + w2.length + w3.length := by rw [e]; simp only [List.length_append]
  simp only [List.length_append]
  refine ⟨by omega, fun hlt => ?_, ?_⟩
  · have h1 : ∀ n, 0 ≤ n → hgt w1 n = some (n + 1) := by
      rcases h1 with z | z
      · rw [z] at hlt
        exact absurd hlt (by simp)
      · exact z
    have q := sWF_hgt (code := code) w1 (k + w0.length) 0 (Int.le_refl 0) (h1 0 (Int.le_refl 0)) (fun i hi => by
      have := hc (w0.length + i) (by omega)
      rw [e, List.append_assoc (w0 ++ w1), getD_app hi] at this
      rw [← this]
      congr 1
      omega)
    rw [show (((w0.length + w1.length : Nat) : Int) - (w0.length : Int)).toNat = w1.length by omega]
    exact q
  · have q := sWF_hgt (code := code) w2 (k + (w0 ++ w1).length) 0 (Int.le_refl 0) (h2 0 (Int.le_refl 0)) (fun i hi => by
      have := hc ((w0 ++ w1).length + i) (by rw [List.length_append]; omega)
      rw [e, getD_app hi] at this
      rw [← this]
      congr 1
      omega)
    rw [List.length_append] at q
    rw [show (((w0.length + w1.length + w2.length : Nat) : Int) - ((w0.length + w1.length : Nat) : Int)).toNat = w2.length by omega]
    exact q

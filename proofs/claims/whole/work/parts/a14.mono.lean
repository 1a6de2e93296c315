/-! who is dead stays dead -/
theorem zwGo_fa (W : ZW) (C : ZC) (rest b : Int) (S : ZS) (hb : 0 ≤ b) : (∀ j : Nat, (j : Int) ≠ b → (zwGo W C rest b S).fa j = S.fa j) ∧ (S.fa b.toNat ≠ 0 → zwGo W C rest b S = S) := by
  have hT : ∀ (c : Nat) (l p i : Int) (T : ZS), (zwTk W C b c l p i T).2.2.fa = T.fa := by
    intro c
    induction c with
    | zero => intro l p i T; rfl
    | succ c ih =>
      intro l p i T
      by_cases hc : W.ca b l = (if p > 0 then 1 else 0)
      · have e : zwTk W C b (c + 1) l p i T = zwTk W C b c (l + 1) (zwLn W C p b l (zwCg b p T)).1 l (zwLn W C p b l (zwCg b p T)).2 := if_pos hc
        rw [e, ih, zwLn_fa, zwCg_fa]
      · have e : zwTk W C b (c + 1) l p i T = zwTk W C b c (l + 1) p i T := if_neg hc
        rw [e, ih]
  refine ⟨fun j hj => ?_, fun h => ?_⟩
  · unfold zwGo
    split
    · unfold zwBx
      split
      · rw [hT]
      · show zu _ b.toNat _ j = S.fa j
        rw [zu_ne _ _ (by omega), hT]
    · rfl
  · unfold zwGo
    exact if_neg (fun q => h q.2)
theorem zwAl_dead {W : ZW} {C : ZC} {rest : Int} : ∀ (c : Nat) (b : Int) (S : ZS) (j : Nat), 0 ≤ b → S.fa j ≠ 0 → (zwAl W C rest c b S).fa j = S.fa j := by
  intro c
  induction c with
  | zero => intro b S j _ _; rfl
  | succ c ih =>
    intro b S j hb h
    have g := zwGo_fa W C rest b S hb
    have e : (zwGo W C rest b S).fa j = S.fa j := by
      by_cases q : (j : Int) = b
      · rw [g.2 (by rw [← q]; exact h)]
      · exact g.1 j q
    show (zwAl W C rest c (b + 1) (zwGo W C rest b S)).fa j = S.fa j
    rw [ih (b + 1) _ j (by omega) (by rw [e]; exact h), e]
theorem zwTick_dead {W : ZW} {fe : Nat → Int} {t rest : Int} (S : ZS) (j : Nat) (h : S.fa j ≠ 0) : (zwTick W fe t rest S).fa j = S.fa j := zwAl_dead _ _ _ _ (by decide) h
theorem zwRun_dead {W : ZW} {F : Int → Nat → Int} {r : Int → Int} : ∀ (c : Nat) (t : Int) (S : ZS) (j : Nat), S.fa j ≠ 0 → (zwRun (fun t S => zwTick W (F t) t (r t) S) (fun _ => false) c t S).fa j = S.fa j := by
  intro c
  induction c with
  | zero => intro t S j h; rfl
  | succ c ih =>
    intro t S j h
    have e := zwTick_dead (W := W) (fe := F t) (t := t) (rest := r t) S j h
    show (zwRun _ _ c (t + 1) (zwTick W (F t) t (r t) S)).fa j = S.fa j
    rw [ih _ _ _ (by rw [e]; exact h), e]
/-- flown till one of the boxes is dead, it is the same who of them is -/
theorem zwFly_dead {W : ZW} {F : Int → Nat → Int} {u : Int} : ∀ (c : Nat) (t : Int) (S : ZS), zwRun (fun t S => zwTick W (F t) t (-1) S) (zwDead u) c t S = zwRun (fun t S => zwTick W (F t) t (-1) S) (fun _ => false) c t S ∨ (zwDead u (zwRun (fun t S => zwTick W (F t) t (-1) S) (zwDead u) c t S) = true ∧ ∀ j, (zwRun (fun t S => zwTick W (F t) t (-1) S) (zwDead u) c t S).fa j ≠ 0 → (zwRun (fun t S => zwTick W (F t) t (-1) S) (fun _ => false) c t S).fa j = (zwRun (fun t S => zwTick W (F t) t (-1) S) (zwDead u) c t S).fa j) := by
  intro c
  induction c with
  | zero => intro t S; exact Or.inl rfl
  | succ c ih =>
    intro t S
    by_cases h : zwDead u S = true
    · have e : zwRun (fun t S => zwTick W (F t) t (-1) S) (zwDead u) (c + 1) t S = S := if_pos h
      rw [e]
      exact Or.inr ⟨h, fun j hj => zwRun_dead (r := fun _ => -1) (c + 1) t S j hj⟩
    · have e : zwRun (fun t S => zwTick W (F t) t (-1) S) (zwDead u) (c + 1) t S = zwRun (fun t S => zwTick W (F t) t (-1) S) (zwDead u) c (t + 1) (zwTick W (F t) t (-1) S) := if_neg h
      rw [e]
      exact ih _ _
theorem zwFly_0 (W : ZW) (F : Int → Nat → Int) (n : Int) : zwFly W F n 0 = zwFull W F n := by
  have h : ∀ S, zwDead 0 S = false := by
    intro S
    unfold zwDead
    rw [List.any_eq_false]
    intro j _
    rw [bt_0]
    simp
  unfold zwFly zwFull
  have key : ∀ (c : Nat) (t : Int) (S : ZS), zwRun (fun t S => zwTick W (F t) t (-1) S) (zwDead 0) c t S = zwRun (fun t S => zwTick W (F t) t (-1) S) (fun _ => false) c t S := by
    intro c
    induction c with
    | zero => intro t S; rfl
    | succ c ih =>
      intro t S
      have e : zwRun (fun t S => zwTick W (F t) t (-1) S) (zwDead 0) (c + 1) t S = zwRun (fun t S => zwTick W (F t) t (-1) S) (zwDead 0) c (t + 1) (zwTick W (F t) t (-1) S) := if_neg (by rw [h]; decide)
      rw [e]
      exact ih _ _
  exact key _ _ _
theorem zwDead_1 {b : Int} (hb : 0 ≤ b ∧ b ≤ 5) (S : ZS) : zwDead (z_ishl 1 b) S = true ↔ S.fa b.toNat ≠ 0 := by
  obtain ⟨k, rfl⟩ : ∃ k : Nat, b = k := ⟨b.toNat, by omega⟩
  have hk : k < 6 := by omega
  unfold zwDead
  rw [List.any_eq_true]
  constructor
  · rintro ⟨j, hj, h⟩
    have hj6 := List.mem_range.mp hj
    rw [bt_shl (by omega) (by omega)] at h
    have h2 := (Bool.and_eq_true _ _).mp h
    have e : j = k := of_decide_eq_true h2.1
    rw [← e]
    exact of_decide_eq_true h2.2
  · intro h
    refine ⟨k, List.mem_range.mpr hk, ?_⟩
    rw [bt_shl (by omega) (by omega), decide_eq_true rfl]
    exact decide_eq_true h
/-- a box is dead behind a flight, whether it was flown to its end or not -/
theorem zwFly_1 (W : ZW) (F : Int → Nat → Int) (n : Int) {b : Int} (hb : 0 ≤ b ∧ b ≤ 5) : (zwFly W F n (z_ishl 1 b)).fa b.toNat = (zwFull W F n).fa b.toNat := by
  rcases zwFly_dead (W := W) (F := F) (u := z_ishl 1 b) n.toNat 0 zwZero with h | ⟨h1, h2⟩
  · unfold zwFly zwFull
    rw [h]
  · exact (h2 _ ((zwDead_1 hb _).mp h1)).symm
theorem zwDead_m1 (S : ZS) : zwDead (-1) S = true ↔ ∃ j : Nat, j < 6 ∧ S.fa j ≠ 0 := by
  have hb : ∀ i : Nat, i < 6 → bt (-1) i = true := by decide
  unfold zwDead
  rw [List.any_eq_true]
  constructor
  · rintro ⟨j, hj, h⟩
    exact ⟨j, List.mem_range.mp hj, of_decide_eq_true ((Bool.and_eq_true _ _).mp h).2⟩
  · rintro ⟨j, hj, h⟩
    refine ⟨j, List.mem_range.mpr hj, ?_⟩
    rw [hb j hj]
    exact decide_eq_true h
/-- the bits of the dead of a stand, and the rows of the reference -/
theorem dead_bits {N : AM} {o : Nat} {S : ZS} (h : JC N o S) : ∀ j : Nat, j < 6 → (bt (mi N o 7) j = true ↔ S.fa j ≠ 0) := by
  intro j hj
  rw [h.2.2.2.2.2.2.1 j hj]
  exact decide_eq_true_iff

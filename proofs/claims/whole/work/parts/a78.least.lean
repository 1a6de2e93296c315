/-! the least set: both searches find the same one -/
def bI (x : Int) (i : Nat) : Int := if bt x i then 1 else 0
theorem bI_rng (x : Int) (i : Nat) : 0 ≤ bI x i ∧ bI x i ≤ 1 := by
  unfold bI
  split <;> decide
theorem b8_val {x : Int} (h0 : 0 ≤ x) (h1 : x < 256) : x = bI x 0 + 2 * bI x 1 + 4 * bI x 2 + 8 * bI x 3 + 16 * bI x 4 + 32 * bI x 5 + 64 * bI x 6 + 128 * bI x 7 := by
  have k : ∀ n : Fin 256, ((n : Nat) : Int) = bI (n : Nat) 0 + 2 * bI (n : Nat) 1 + 4 * bI (n : Nat) 2 + 8 * bI (n : Nat) 3 + 16 * bI (n : Nat) 4 + 32 * bI (n : Nat) 5 + 64 * bI (n : Nat) 6 + 128 * bI (n : Nat) 7 := by decide +kernel
  obtain ⟨n, rfl⟩ := Int.eq_ofNat_of_zero_le h0
  exact k ⟨n, by omega⟩
theorem b8_cnt {x : Int} (h0 : 0 ≤ x) (h1 : x < 256) : bcX x = bI x 0 + bI x 1 + bI x 2 + bI x 3 + bI x 4 + bI x 5 + bI x 6 + bI x 7 := by
  have k : ∀ n : Fin 256, bcX ((n : Nat) : Int) = bI (n : Nat) 0 + bI (n : Nat) 1 + bI (n : Nat) 2 + bI (n : Nat) 3 + bI (n : Nat) 4 + bI (n : Nat) 5 + bI (n : Nat) 6 + bI (n : Nat) 7 := by decide +kernel
  obtain ⟨n, rfl⟩ := Int.eq_ofNat_of_zero_le h0
  exact k ⟨n, by omega⟩
/-- a set within another -/
theorem sub_bit {x y : Int} (h : z_iand x (z_ixor y (-1)) = 0) {i : Nat} (hi : i < 32) : bt x i = true → bt y i = true := by
  have q : bt (z_iand x (z_ixor y (-1))) i = false := by rw [h, bt_0]
  rw [bt_and, bt_not _ hi] at q
  intro hx
  rw [hx, Bool.true_and] at q
  cases hy : bt y i
  · rw [hy] at q; exact absurd q (by decide)
  · rfl
theorem sub_bI {x y : Int} (h : z_iand x (z_ixor y (-1)) = 0) {i : Nat} (hi : i < 32) : bI x i ≤ bI y i := by
  unfold bI
  by_cases c : bt x i = true
  · rw [if_pos c, if_pos (sub_bit h hi c)]; exact Int.le_refl _
  · rw [if_neg c]; split <;> decide
theorem sub_le {x y : Int} (h0 : 0 ≤ x) (h1 : x < 256) (g0 : 0 ≤ y) (g1 : y < 256) (h : z_iand x (z_ixor y (-1)) = 0) : x ≤ y ∧ bcX x ≤ bcX y := by
  have a := b8_val h0 h1
  have b := b8_val g0 g1
  have c := b8_cnt h0 h1
  have d := b8_cnt g0 g1
  have q0 := sub_bI h (show 0 < 32 by decide)
  have q1 := sub_bI h (show 1 < 32 by decide)
  have q2 := sub_bI h (show 2 < 32 by decide)
  have q3 := sub_bI h (show 3 < 32 by decide)
  have q4 := sub_bI h (show 4 < 32 by decide)
  have q5 := sub_bI h (show 5 < 32 by decide)
  have q6 := sub_bI h (show 6 < 32 by decide)
  have q7 := sub_bI h (show 7 < 32 by decide)
  constructor
  · rw [a, b]; omega
  · rw [c, d]; omega
theorem and_not_self (x : Int) : z_iand x (z_ixor x (-1)) = 0 := by
  refine (zero_of (z_iand_rng _ _).1 (z_iand_rng _ _).2).mpr (fun i hi => ?_)
  rw [bt_and, bt_not _ hi]
  cases bt x i <;> rfl
theorem full_cnt {F : Nat} (hF : F ≤ 8) {x : Int} (h0 : 0 ≤ x) (h1 : x < 2 ^ F) (h : bcX x ≥ F) : x + 1 = 2 ^ F := by
  have k : ∀ F : Fin 9, ∀ n : Fin 256, (n : Nat) < 2 ^ (F : Nat) → bcX ((n : Nat) : Int) ≥ ((F : Nat) : Int) → (n : Nat) + 1 = 2 ^ (F : Nat) := by decide +kernel
  have p := pow8 hF
  obtain ⟨n, rfl⟩ := Int.eq_ofNat_of_zero_le h0
  have h2 : n < 2 ^ F := by exact_mod_cast h1
  have q := k ⟨F, by omega⟩ ⟨n, by omega⟩ h2 h
  exact_mod_cast q
/-- the least of those that do: by how many, then by the number -/
def bestS (P : Int → Prop) (T q : Int) : Prop := (0 ≤ q ∧ q < T) ∧ P q ∧ ∀ x, 0 ≤ x → x < T → P x → bcX q < bcX x ∨ (bcX q = bcX x ∧ q ≤ x)
theorem bestS.one {P : Int → Prop} {T q q' : Int} (h : bestS P T q) (h' : bestS P T q') : q = q' := by
  have a := h.2.2 q' h'.1.1 h'.1.2 h'.2.1
  have b := h'.2.2 q h.1.1 h.1.2 h.2.1
  omega
def firstS (Q : Int → Prop) (s e r : Int) : Prop := (r = -1 ∧ ∀ x, s ≤ x → x < e → ¬ Q x) ∨ ((s ≤ r ∧ r < e) ∧ Q r ∧ ∀ x, s ≤ x → x < r → ¬ Q x)
theorem ffI_sp {g : Nat → Int} {F bits dead size : Int} : ∀ (c : Nat) (s : Int), firstS (fun x => bcX x = size ∧ z_iand x (z_ixor bits (-1)) = 0 ∧ kbG g x F.toNat = dead) s (s + c) (ffI g F bits dead size c s) := by
  intro c
  induction c with
  | zero => intro s; exact Or.inl ⟨rfl, fun x a b => by omega⟩
  | succ c ih =>
    intro s
    by_cases z : bcX s = size ∧ z_iand s (z_ixor bits (-1)) = 0 ∧ kbG g s F.toNat = dead
    · rw [ffI_y z.1 z.2.1 z.2.2]
      exact Or.inr ⟨⟨by omega, by omega⟩, z, fun x a b => by omega⟩
    · rw [ffI_n z]
      rcases ih (s + 1) with ⟨a, b⟩ | ⟨a, b, d⟩
      · refine Or.inl ⟨a, fun x x0 x1 => ?_⟩
        by_cases y : x = s
        · rw [y]; exact z
        · exact b x (by omega) (by omega)
      · refine Or.inr ⟨⟨by omega, by omega⟩, b, fun x x0 x1 => ?_⟩
        by_cases y : x = s
        · rw [y]; exact z
        · exact d x (by omega) (by omega)
/-- sets of flights that together kill all -/
def kilS (g : Nat → Int) (F bits dead : Int) (x : Int) : Prop := z_iand x (z_ixor bits (-1)) = 0 ∧ kbG g x F.toNat = dead
theorem ffO_sp {g : Nat → Int} {F bits dead : Int} (hF : 0 ≤ F ∧ F ≤ 8) (hb0 : 0 ≤ bits) (hb1 : bits < 2 ^ F.toNat) (hd : kbG g bits F.toNat = dead) : ∀ (c : Nat) (z : Int), z + c = F → 0 ≤ z → (∀ x, 0 ≤ x → x < bits → kilS g F bits dead x → z ≤ bcX x) → bestS (kilS g F bits dead) (2 ^ F.toNat) (ffO g F bits dead c z) := by
  have p := pow8 (show F.toNat ≤ 8 by omega)
  have self : kilS g F bits dead bits := ⟨and_not_self bits, hd⟩
  have within : ∀ x, 0 ≤ x → x < 2 ^ F.toNat → kilS g F bits dead x → x ≤ bits ∧ bcX x ≤ bcX bits := fun x x0 x1 k => sub_le x0 (by omega) hb0 (by omega) k.1
  intro c
  induction c with
  | zero =>
    intro z hz h0 h
    refine ⟨⟨hb0, hb1⟩, self, fun x x0 x1 k => ?_⟩
    show bcX bits < bcX x ∨ (bcX bits = bcX x ∧ bits ≤ x)
    have w := within x x0 x1 k
    by_cases y : x = bits
    · rw [y]; exact Or.inr ⟨rfl, Int.le_refl _⟩
    · have q := full_cnt (F := F.toNat) (by omega) x0 x1 (by have := h x x0 (by omega) k; omega)
      omega
  | succ c ih =>
    intro z hz h0 h
    have f := ffI_sp (g := g) (F := F) (bits := bits) (dead := dead) (size := z) bits.toNat 0
    unfold ffO
    rcases f with ⟨a, b⟩ | ⟨a, b, d⟩
    · rw [if_neg (by omega)]
      refine ih (z + 1) (by omega) (by omega) (fun x x0 x1 k => ?_)
      have q := h x x0 x1 k
      have n := b x x0 (by omega)
      have : bcX x ≠ z := fun w => n ⟨w, k.1, k.2⟩
      omega
    · rw [if_pos (by omega)]
      generalize ffI g F bits dead z bits.toNat 0 = r at a b d
      have rb : r < bits := by omega
      refine ⟨⟨a.1, by omega⟩, ⟨b.2.1, b.2.2⟩, fun x x0 x1 k => ?_⟩
      have w := within x x0 x1 k
      by_cases y : x = bits
      · have q := (within r a.1 (by omega) ⟨b.2.1, b.2.2⟩).2
        rw [y]; omega
      · have q := h x x0 (by omega) k
        by_cases u : bcX x = z
        · refine Or.inr ⟨by rw [u]; exact b.1, ?_⟩
          refine Decidable.byContradiction (fun v => ?_)
          exact d x x0 (by omega) ⟨u, k.1, k.2⟩
        · exact Or.inl (by omega)
/-- the reference's: one walk over all sets, the best so far kept -/
theorem fbL_sp {N : AM} {fs F any : Int} : ∀ (c : Nat) (s q : Int), 0 ≤ s → ((q = -1 ∧ ∀ x, 0 ≤ x → x < s → ¬ (z_iand x (z_ixor fs (-1)) = 0 ∧ kbL N x F.toNat = any)) ∨ bestS (fun x => z_iand x (z_ixor fs (-1)) = 0 ∧ kbL N x F.toNat = any) s q) → ((fbL N fs F any c s q = -1 ∧ ∀ x, 0 ≤ x → x < s + c → ¬ (z_iand x (z_ixor fs (-1)) = 0 ∧ kbL N x F.toNat = any)) ∨ bestS (fun x => z_iand x (z_ixor fs (-1)) = 0 ∧ kbL N x F.toNat = any) (s + c) (fbL N fs F any c s q)) := by
  intro c
  induction c with
  | zero =>
    intro s q h0 h
    rw [show s + ((0 : Nat) : Int) = s by omega]
    exact h
  | succ c ih =>
    intro s q h0 h
    rw [show s + ((c + 1 : Nat) : Int) = s + 1 + (c : Int) by omega]
    unfold fbL
    by_cases z : z_iand s (z_ixor fs (-1)) ≠ 0 ∨ (q ≥ 0 ∧ bcX s ≥ bcX q)
    · rw [if_pos z]
      refine ih (s + 1) q (by omega) ?_
      rcases h with ⟨a, b⟩ | ⟨a, b, d⟩
      · refine Or.inl ⟨a, fun x x0 x1 k => ?_⟩
        by_cases y : x = s
        · rw [y] at k
          rcases z with z | z
          · exact z k.1
          · omega
        · exact b x x0 (by omega) k
      · refine Or.inr ⟨⟨a.1, by omega⟩, b, fun x x0 x1 k => ?_⟩
        by_cases y : x = s
        · rw [y] at k ⊢
          rcases z with z | z
          · exact absurd k.1 z
          · omega
        · exact d x x0 (by omega) k
    · rw [if_neg z]
      have z1 : z_iand s (z_ixor fs (-1)) = 0 := Decidable.byContradiction (fun w => z (Or.inl w))
      by_cases y : kbL N s F.toNat = any
      · rw [if_pos y]
        refine ih (s + 1) s (by omega) (Or.inr ⟨⟨h0, by omega⟩, ⟨z1, y⟩, fun x x0 x1 k => ?_⟩)
        by_cases w : x = s
        · rw [w]; exact Or.inr ⟨rfl, Int.le_refl _⟩
        · rcases h with ⟨a, b⟩ | ⟨a, b, d⟩
          · exact absurd k (b x x0 (by omega))
          · have q2 := d x x0 (by omega) k
            have : ¬ (q ≥ 0 ∧ bcX s ≥ bcX q) := fun w => z (Or.inr w)
            omega
      · rw [if_neg y]
        refine ih (s + 1) q (by omega) ?_
        rcases h with ⟨a, b⟩ | ⟨a, b, d⟩
        · refine Or.inl ⟨a, fun x x0 x1 k => ?_⟩
          by_cases w : x = s
          · rw [w] at k; exact y k.2
          · exact b x x0 (by omega) k
        · refine Or.inr ⟨⟨a.1, by omega⟩, b, fun x x0 x1 k => ?_⟩
          by_cases w : x = s
          · rw [w] at k; exact absurd k.2 y
          · exact d x x0 (by omega) k
theorem pow_shl {F : Int} (h0 : 0 ≤ F) (h1 : F ≤ 8) : z_ishl 1 F = 2 ^ F.toNat := by
  have k : ∀ n : Fin 9, z_ishl 1 ((n : Nat) : Int) = 2 ^ (n : Nat) := by decide +kernel
  obtain ⟨n, rfl⟩ := Int.eq_ofNat_of_zero_le h0
  rw [Int.toNat_natCast]
  exact k ⟨n, by omega⟩
theorem kbL_G {N : AM} {g : Nat → Int} {x : Int} : ∀ n : Nat, (∀ j, j < n → mi N 132 j = g j) → kbL N x n = kbG g x n
  | 0, _ => rfl
  | n + 1, h => by
    unfold kbL kbG
    rw [kbL_G n (fun j hj => h j (by omega)), h n (by omega)]
theorem few_same {N : AM} {g : Nat → Int} {F fs : Int} (hF : 0 ≤ F ∧ F ≤ 8) (hb0 : 0 ≤ fs) (hb1 : fs < 2 ^ F.toNat) (hg : ∀ j : Nat, (j : Int) < F → mi N 132 j = g j) : fbL N fs F (kbG g fs F.toNat) (z_ishl 1 F).toNat 0 (-1) = ffO g F fs (kbG g fs F.toNat) F.toNat 0 := by
  have p : (0 : Int) < 2 ^ F.toNat := Int.lt_of_le_of_lt hb0 hb1
  have e : ∀ x, kbL N x F.toNat = kbG g x F.toNat := fun x => kbL_G _ (fun j hj => hg j (by omega))
  have a := ffO_sp (g := g) (F := F) (bits := fs) (dead := kbG g fs F.toNat) hF hb0 hb1 rfl F.toNat 0 (by omega) (by decide) (fun x x0 x1 k => by
    have q := pow8 (show F.toNat ≤ 8 by omega)
    exact (bcX_r8 x0 (by omega)).1)
  have b := fbL_sp (N := N) (fs := fs) (F := F) (any := kbG g fs F.toNat) (z_ishl 1 F).toNat 0 (-1) (by decide) (Or.inl ⟨rfl, fun x x0 x1 => by omega⟩)
  have ep : (0 : Int) + (((z_ishl 1 F).toNat : Nat) : Int) = 2 ^ F.toNat := by rw [pow_shl hF.1 hF.2]; omega
  rw [ep] at b
  simp only [e] at b
  rcases b with ⟨-, b⟩ | b
  · exact absurd ⟨and_not_self fs, rfl⟩ (b fs hb0 hb1)
  · exact bestS.one b a
/-- boxes that don't stand are never dead -/
theorem zwAl_hi {W : ZW} {C : ZC} {rest : Int} : ∀ (c : Nat) (b : Int) (S : ZS) (j : Nat), 0 ≤ b → b + c ≤ j → (zwAl W C rest c b S).fa j = S.fa j := by
  intro c
  induction c with
  | zero => intro b S j _ _; rfl
  | succ c ih =>
    intro b S j hb hj
    show (zwAl W C rest c (b + 1) (zwGo W C rest b S)).fa j = S.fa j
    rw [ih (b + 1) _ j (by omega) (by omega), (zwGo_fa W C rest b S hb).1 j (by omega)]
theorem zwRun_hi {W : ZW} {F : Int → Nat → Int} (hW : 0 ≤ W.nb) {j : Nat} (hj : W.nb ≤ j) : ∀ (c : Nat) (t : Int) (S : ZS), (zwRun (fun t S => zwTick W (F t) t (-1) S) (fun _ => false) c t S).fa j = S.fa j := by
  intro c
  induction c with
  | zero => intro t S; rfl
  | succ c ih =>
    intro t S
    show (if false = true then S else zwRun (fun t S => zwTick W (F t) t (-1) S) (fun _ => false) c (t + 1) (zwTick W (F t) t (-1) S)).fa j = S.fa j
    rw [if_neg (by decide), ih]
    exact zwAl_hi _ _ _ _ (by decide) (by omega)
theorem orL_hi {g : Nat → Int} {n : Nat} : ∀ k : Nat, (∀ j, n ≤ j → g j = 0) → orL g (n + k) = orL g n
  | 0, _ => rfl
  | k + 1, h => by
    show (if g (n + k) ≠ 0 then _ else orL g (n + k)) = _
    rw [if_neg (fun q => q (h _ (by omega))), orL_hi k h]
theorem dead_nb {W : ZW} {F : Int → Nat → Int} {n : Int} (hW : 0 ≤ W.nb ∧ W.nb ≤ 6) : orL (zwFull W F n).fa 6 = orL (zwFull W F n).fa W.nb.toNat := by
  have q := orL_hi (g := (zwFull W F n).fa) (n := W.nb.toNat) (6 - W.nb.toNat) (fun j hj => zwRun_hi hW.1 (by omega) _ _ _)
  rw [← q, show W.nb.toNat + (6 - W.nb.toNat) = 6 by omega]

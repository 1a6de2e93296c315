/-! the class's acts -/
def bodA : List Int := [1, 10, 11, 2, 0, 20, 0, 0, 0, 0, 30, 0, 40, 0, 0, 0, 0, 0, 0, 50, 0, 0, 60, 61, 70, 71, 0, 0]
def abvA : List Int := [-1, 0, 0, 0, 0, 4, 3]
/-- what the class's two tables hold -/
def TB (G : QW) : Prop := (G.oL 1 = 28 ∧ G.oL 2 = 7) ∧ (∀ j : Nat, j < 28 → (G.ox 1 j).toInt = List.getD bodA j 0) ∧ ∀ j : Nat, j < 7 → (G.ox 2 j).toInt = List.getD abvA j 0
theorem getD_r {lo hi : Int} (h0 : lo ≤ 0 ∧ 0 ≤ hi) : ∀ (l : List Int) (h : ∀ x ∈ l, lo ≤ x ∧ x ≤ hi) (j : Nat), lo ≤ List.getD l j 0 ∧ List.getD l j 0 ≤ hi := by
  intro l
  induction l with
  | nil => intro _ j; exact h0
  | cons x l ih =>
    intro h j
    cases j with
    | zero => exact h x List.mem_cons_self
    | succ j => exact ih (fun y hy => h y (List.mem_cons_of_mem _ hy)) j
theorem bodA_r (j : Nat) : 0 ≤ List.getD bodA j 0 ∧ List.getD bodA j 0 ≤ 71 := getD_r (by decide) bodA (by decide) j
theorem abvA_r (j : Nat) : -1 ≤ List.getD abvA j 0 ∧ List.getD abvA j 0 ≤ 4 := getD_r (by decide) abvA (by decide) j
theorem abvA_r1 {k : Int} (h : 0 < k) : 0 ≤ List.getD abvA k.toNat 0 ∧ List.getD abvA k.toNat 0 ≤ 4 := by
  obtain ⟨j, hj⟩ : ∃ j, k.toNat = j + 1 := ⟨k.toNat - 1, by omega⟩
  rw [hj]
  exact getD_r (by decide) [0, 0, 0, 0, 4, 3] (by decide) j
/-- the kind whose body is found -/
def rsA (act : Int) : Nat → Int → Int
  | 0, k => k
  | c + 1, k => if 0 < k ∧ List.getD bodA ((k * 4) + act).toNat 0 = 0 then rsA act c (List.getD abvA k.toNat 0) else k
theorem rsA_r {act : Int} : ∀ (c : Nat) (k : Int), 0 ≤ k ∧ k ≤ 6 → 0 ≤ rsA act c k ∧ rsA act c k ≤ 6 := by
  intro c
  induction c with
  | zero => intro k h; exact h
  | succ c ih =>
    intro k h
    unfold rsA
    split
    · next q => have := abvA_r1 q.1; exact ih _ ⟨this.1, by omega⟩
    · exact h
/-- a body is noted, by the class -/
def ranC (m : AM) (c : Int) : AM := si (if mi m 22 1 < 24 then si m 23 (mi m 22 1).toNat c else m) 22 1 (mi m 22 1 + 1)
def ranD : List Int → AM → AM
  | [], m => m
  | c :: l, m => ranD l (ranC m c)
theorem ranD_app (l l2 : List Int) : ∀ m, ranD (l ++ l2) m = ranD l2 (ranD l m) := by
  induction l with
  | nil => intro m; rfl
  | cons c l ih => intro m; exact ih _
theorem ranC_2 (m : AM) (c : Int) : (ranC m c).2 = m.2 := by
  unfold ranC
  show (if mi m 22 1 < 24 then si m 23 (mi m 22 1).toNat c else m).2 = m.2
  split <;> rfl
theorem ranC_mi (m : AM) (c : Int) {o j : Nat} (h : o ≠ 22) (h2 : o ≠ 23) : mi (ranC m c) o j = mi m o j := by
  unfold ranC
  rw [mi_si_ne _ _ (fun q => h q.1)]
  split
  · exact mi_si_ne _ _ (fun q => h2 q.1)
  · rfl
theorem ranD_mi {o j : Nat} (h : o ≠ 22) (h2 : o ≠ 23) : ∀ (l : List Int) (m : AM), mi (ranD l m) o j = mi m o j := by
  intro l
  induction l with
  | nil => intro m; rfl
  | cons c l ih => intro m; exact (ih _).trans (ranC_mi m c h h2)
theorem ranD_2 : ∀ (l : List Int) (m : AM), (ranD l m).2 = m.2 := by
  intro l
  induction l with
  | nil => intro m; rfl
  | cons c l ih => intro m; exact (ih _).trans (ranC_2 m c)
/-- a box that acts -/
def AY (N : AM) (X P : Nat) (b kd ln : Int) (n : Nat) : Prop := St N ∧ (0 ≤ mi N 22 1 ∧ mi N 22 1 ≤ n) ∧ (ObA N X 1 fsBox ∧ mr N X 4 = some P ∧ ObA N P 5 fsProg) ∧ (145 ≤ X ∧ (P = 62 ∨ 145 ≤ P)) ∧ (mi N X 0 = b ∧ mi N X 1 = kd ∧ mi N P 6 = ln) ∧ (0 ≤ b ∧ b ≤ 5) ∧ (0 ≤ kd ∧ kd ≤ 6) ∧ 0 ≤ ln ∧ ln ≤ 12
theorem AY.up {N : AM} {X P : Nat} {b kd ln : Int} {n n2 : Nat} (h : AY N X P b kd ln n) (hn : n ≤ n2) : AY N X P b kd ln n2 := ⟨h.1, ⟨h.2.1.1, by have := h.2.1.2; omega⟩, h.2.2⟩
theorem ob2 {m N : AM} (e : N.2 = m.2) {a c : Nat} {fs : List (Nat × Nat × Nat × Nat)} (h : ObA m a c fs) : ObA N a c fs := by
  have e1 : mr N = mr m := congrArg (fun q => q.2.1) e
  have e2 : mk N = mk m := congrArg (fun q => q.2.2.1) e
  have e3 : mn N = mn m := congrArg (fun q => q.2.2.2.1) e
  have e4 : mz N = mz m := congrArg (fun q => q.2.2.2.2) e
  unfold ObA
  rw [e1, e2, e3, e4]
  exact h
theorem st2 {m N : AM} (e : N.2 = m.2) (h : St m) : St N := St.sub (congrArg (fun q => q.2) e) h
theorem AY.one {N : AM} {X P : Nat} {b kd ln : Int} {n : Nat} (h : AY N X P b kd ln n) (hn : n ≤ 1000) (c : Int) : AY (ranC N c) X P b kd ln (n + 1) := by
  have e : mi (ranC N c) 22 1 = mi N 22 1 + 1 := mi_si_same _ _ _ (by have := h.2.1.1; omega) (by have := h.2.1.2; omega)
  have e2 := ranC_2 N c
  refine ⟨st2 e2 h.1, by rw [e]; have := h.2.1; omega, ⟨ob2 e2 h.2.2.1.1, (congrArg (fun q => q.2.1 X 4) e2).trans h.2.2.1.2.1, ob2 e2 h.2.2.1.2.2⟩, h.2.2.2.1, ?_, h.2.2.2.2.2⟩
  have hX := h.2.2.2.1
  rw [ranC_mi N c (by omega) (by omega), ranC_mi N c (by omega) (by omega), ranC_mi N c (by omega) (by omega)]
  exact h.2.2.2.2.1
theorem AY.list {X P : Nat} {b kd ln : Int} : ∀ (l : List Int) {N : AM} {n : Nat}, AY N X P b kd ln n → n + l.length ≤ 1000 → AY (ranD l N) X P b kd ln (n + l.length) := by
  intro l
  induction l with
  | nil => intro N n h _; exact h
  | cons c l ih =>
    intro N n h hl
    have hl2 : n + (l.length + 1) ≤ 1000 := hl
    have := ih (h.one (by omega) c) (by omega)
    rw [show n + 1 + l.length = n + (l.length + 1) by omega] at this
    exact this
theorem AY.b_ {N : AM} {X P : Nat} {b kd ln : Int} {n : Nat} (h : AY N X P b kd ln n) : mi N X 0 = b := h.2.2.2.2.1.1
theorem AY.kd_ {N : AM} {X P : Nat} {b kd ln : Int} {n : Nat} (h : AY N X P b kd ln n) : mi N X 1 = kd := h.2.2.2.2.1.2.1
theorem AY.ln_ {N : AM} {X P : Nat} {b kd ln : Int} {n : Nat} (h : AY N X P b kd ln n) : mi N P 6 = ln := h.2.2.2.2.1.2.2
theorem AY.r_ {N : AM} {X P : Nat} {b kd ln : Int} {n : Nat} (h : AY N X P b kd ln n) : (0 ≤ b ∧ b ≤ 5) ∧ (0 ≤ kd ∧ kd ≤ 6) ∧ 0 ≤ ln ∧ ln ≤ 12 := h.2.2.2.2.2

theorem ct_X0_begin {G : QW} {m : AM} {c : Int} (hS : St m) (ht : 0 ≤ mi m 22 1 ∧ mi m 22 1 ≤ 500) : qM G mX0_begin 0 0 0 [vR 22, vI c] m (fun r m' => r = none ∧ m' = ranC m c) := by
  refine qM.intro okX0_begin (Nat.le_of_ble_eq_true rfl) ?_
  refine j_aload_n rfl rfl ?_
  refine j_getI rfl f_X0_32 rfl (hS.lt (by decide)) (hS.k (by decide) (by decide)) ?_
  have u1_1 := mi_rng m 22 1
  refine j_bipush rfl (by decide) ?_
  refine j_icmp_ge (tgt := 19) rfl (by decide) (by omega) (by omega) (by omega) (by omega) (fun hb6_1 => ?_) (fun hb6_1 => ?_)
  · skip
    have ex : mi m 22 1 = mi m 22 1 := by first | rfl | exact mi_si_ne _ _ (fun q => absurd q.1 (by decide))
    refine j_aload_n rfl rfl ?_
    refine j_dup rfl (Nat.ne_of_beq_eq_false rfl) ?_
    refine j_getI rfl f_X0_32 rfl (hS.lt (by decide)) (hS.k (by decide) (by decide)) ?_
    have u21_1 := mi_rng m 22 1
    refine j_iconst rfl ?_
    refine j_iadd rfl ?_
    refine j_putI rfl f_X0_32 rfl (hS.lt (by decide)) (hS.k (by decide) (by decide)) ?_
    refine j_vret rfl rfl ?_ rfl (Nat.le_refl _)
    refine ⟨rfl, ?_⟩
    unfold ranC
    first | rw [if_pos (by omega)] | rw [if_neg (by omega)]
  · skip
    refine j_aload_n rfl rfl ?_
    refine j_getR (q := 23) rfl f_X0_9 rfl (hS.lt (by decide)) (hS.k (by decide) (by decide)) (hS.r (by decide)) ?_
    refine j_aload_n rfl rfl ?_
    refine j_getI rfl f_X0_32 rfl (hS.lt (by decide)) (hS.k (by decide) (by decide)) ?_
    have u14_1 := mi_rng m 22 1
    refine j_iload_n rfl rfl ?_
    refine j_iast (n := 24) rfl (hS.lt (by decide)) (hS.k (by decide) (by decide)) (hS.n (by decide) (by decide)) (by omega) (by omega) (by first | decide | omega) ?_
    have ex : mi (si m 23 (mi m 22 1).toNat c) 22 1 = mi m 22 1 := by first | rfl | exact mi_si_ne _ _ (fun q => absurd q.1 (by decide))
    refine j_aload_n rfl rfl ?_
    refine j_dup rfl (Nat.ne_of_beq_eq_false rfl) ?_
    refine j_getI rfl f_X0_32 rfl (hS.lt (by decide)) (hS.k (by decide) (by decide)) ?_
    rw [show mi (si m 23 (mi m 22 1).toNat c) 22 1 = mi m 22 1 from by simp [mi_si, mi_fil, mi_cpr, mi_sl, mi_sr]]
    have u21_2 := mi_rng m 22 1
    refine j_iconst rfl ?_
    refine j_iadd rfl ?_
    refine j_putI rfl f_X0_32 rfl (hS.lt (by decide)) (hS.k (by decide) (by decide)) ?_
    refine j_vret rfl rfl ?_ rfl (Nat.le_refl _)
    refine ⟨rfl, ?_⟩
    unfold ranC
    first | rw [if_pos (by omega)] | rw [if_neg (by omega)]

set_option maxRecDepth 20000 in
set_option maxHeartbeats 4000000 in
theorem lp_resolve {G : QW} {N : AM} {X d : Nat} {act k0 x dep K : Int} {Rp : Option Vl → AM → Prop} (hT : TB G) (ha : 0 ≤ act ∧ act ≤ 3) (hexit : qJ G mX0_perform { frames := d, cells := 0, slots := 0, locals := 60 * d } (qF G Rp 0 0) 54 [(0, vR 22), (1, vR X), (2, vI act), (3, vI k0), (4, vI x), (5, vI dep), (6, vI K)] [] N 0 0) : ∀ (c : Nat) (k n : Int), (0 ≤ k ∧ k ≤ 6) → n + c = 7 → 0 ≤ n → rsA act c k = K → qJ G mX0_perform { frames := d, cells := 0, slots := 0, locals := 60 * d } (qF G Rp 0 0) 15 [(0, vR 22), (1, vR X), (2, vI act), (3, vI k0), (4, vI x), (5, vI dep), (6, vI k), (7, vI n)] [] N 0 0 := by
  intro c
  induction c with
  | zero =>
    intro k n hk hn hn0 hK
    refine j_iload rfl rfl ?_
    refine j_bipush rfl (by decide) ?_
    refine j_icmp_ge (tgt := 54) rfl (by decide) (by omega) (by omega) (by omega) (by omega) (fun hb19_1 => ?_) (fun hb19_1 => by exfalso; omega)
    refine j_loc (ls' := [(0, vR 22), (1, vR X), (2, vI act), (3, vI k0), (4, vI x), (5, vI dep), (6, vI k)]) rfl ?_
    rw [show K = k from hK.symm] at hexit
    exact hexit
  | succ c ih =>
    intro k n hk hn hn0 hK
    refine j_iload rfl rfl ?_
    refine j_bipush rfl (by decide) ?_
    refine j_icmp_ge (tgt := 54) rfl (by decide) (by omega) (by omega) (by omega) (by omega) (fun hb19_1 => ?_) (fun hb19_1 => ?_)
    · skip
      refine j_loc (ls' := [(0, vR 22), (1, vR X), (2, vI act), (3, vI k0), (4, vI x), (5, vI dep), (6, vI k)]) rfl ?_
      rw [show K = k from by rw [← hK]; exact if_neg (by omega)] at hexit
      exact hexit
    · skip
      refine j_iload rfl rfl ?_
      refine j_if_le (tgt := 54) rfl (by decide) (by omega) (by omega) (fun hb24_1 => ?_) (fun hb24_1 => ?_)
      · skip
        refine j_loc (ls' := [(0, vR 22), (1, vR X), (2, vI act), (3, vI k0), (4, vI x), (5, vI dep), (6, vI k)]) rfl ?_
        rw [show K = k from by rw [← hK]; exact if_neg (by omega)] at hexit
        exact hexit
      · skip
        refine j_gets1N rfl (by decide) ?_
        refine j_iload rfl rfl ?_
        refine j_iconst rfl ?_
        refine j_imul rfl ?_
        refine j_iload_n rfl rfl ?_
        refine j_iadd rfl ?_
        refine j_oald rfl (by decide) (by omega) (by rw [hT.1.1]; omega) (by rw [hT.1.1]; decide) ?_
        rw [hT.2.1 ((k * 4) + act).toNat (by omega)]
        have y36_1 := bodA_r ((k * 4) + act).toNat
        refine j_if_ne (tgt := 54) rfl (by decide) (by omega) (by omega) (fun hb37_1 => ?_) (fun hb37_1 => ?_)
        · skip
          refine j_loc (ls' := [(0, vR 22), (1, vR X), (2, vI act), (3, vI k0), (4, vI x), (5, vI dep), (6, vI k)]) rfl ?_
          rw [show K = k from by rw [← hK]; exact if_neg (by omega)] at hexit
          exact hexit
        · skip
          refine j_gets2N rfl (by decide) ?_
          refine j_iload rfl rfl ?_
          refine j_oald rfl (by decide) (by omega) (by rw [hT.1.2]; omega) (by rw [hT.1.2]; decide) ?_
          rw [hT.2.2 k.toNat (by omega)]
          have y45_1 := abvA_r k.toNat
          refine j_istore rfl (by decide) ?_
          have hab := abvA_r1 (k := k) (by omega)
          have hab : 0 ≤ List.getD abvA k.toNat 0 ∧ List.getD abvA k.toNat 0 ≤ 6 := ⟨hab.1, by omega⟩
          refine j_iinc rfl rfl (by decide) ?_
          refine j_goto (tgt := 15) rfl (by decide) ?_
          refine j_loc (ls' := [(0, vR 22), (1, vR X), (2, vI act), (3, vI k0), (4, vI x), (5, vI dep), (6, vI (List.getD abvA k.toNat 0)), (7, vI (n + 1))]) rfl ?_
          exact ih _ (n + 1) hab (by omega) (by omega) (by rw [← hK, show rsA act (c + 1) k = rsA act c (List.getD abvA k.toNat 0) from if_pos ⟨by omega, by omega⟩])

set_option maxRecDepth 20000 in
set_option maxHeartbeats 4000000 in
theorem ct_perform {G : QW} {N : AM} {X P n d : Nat} {b kd ln act k0 x dep VV : Int} {T : List Int} (hT : TB G) (hA : AY N X P b kd ln n) (hn : n ≤ 100) (ha : 0 ≤ act ∧ act ≤ 3) (hk : 0 ≤ k0 ∧ k0 ≤ 6) (hdep : 0 ≤ dep ∧ dep ≤ 30) {K B : Int} (hK : rsA act 7 k0 = K) (hB : List.getD bodA ((K * 4) + act).toNat 0 = B)
    (h0 : K = 0 → qM G mX0_performFirst d 0 0 [vR 22, vR X, vI B, vI x, vI (dep + 1)] (ranC N B) (fun r N2 => r = some (vI VV) ∧ N2 = ranD T (ranC N B)))
    (h1 : K ≠ 0 → qM G mX0_performAbove d 0 0 [vR 22, vR X, vI B, vI x, vI (dep + 1)] (ranC N B) (fun r N2 => r = some (vI VV) ∧ N2 = ranD T (ranC N B))) : qM G mX0_perform (d + 1) 0 0 [vR 22, vR X, vI act, vI k0, vI x, vI dep] N (fun r N2 => r = some (vI VV) ∧ N2 = ranD (B :: T) N) := by
  have hKr : 0 ≤ K ∧ K ≤ 6 := by rw [← hK]; exact rsA_r 7 k0 hk
  have hBr : 0 ≤ B ∧ B ≤ 71 := by rw [← hB]; exact bodA_r _
  refine qM.intro okX0_perform (Nat.le_of_ble_eq_true rfl) ?_
  have hRB := RBn (d + 1)
  refine j_iload rfl rfl ?_
  refine j_bipush rfl (by decide) ?_
  refine j_icmp_le (tgt := 9) rfl (by decide) (by omega) (by omega) (by omega) (by omega) (fun hb4_1 => ?_) (fun hb4_1 => ?_)
  · skip
    refine j_iload_n rfl rfl ?_
    refine j_istore rfl (by decide) ?_
    refine j_iconst rfl ?_
    refine j_istore rfl (by decide) ?_
    refine j_loc (ls' := [(0, vR 22), (1, vR X), (2, vI act), (3, vI k0), (4, vI x), (5, vI dep), (6, vI k0), (7, vI 0)]) rfl ?_
    refine lp_resolve hT ha ?_ 7 k0 0 hk (by decide) (by decide) hK
    refine j_iload rfl rfl ?_
    refine j_if_ge (tgt := 61) rfl (by decide) (by omega) (by omega) (fun hb56_1 => ?_) (fun hb56_1 => ?_)
    · skip
      refine j_gets1N rfl (by decide) ?_
      refine j_iload rfl rfl ?_
      refine j_iconst rfl ?_
      refine j_imul rfl ?_
      refine j_iload_n rfl rfl ?_
      refine j_iadd rfl ?_
      refine j_oald rfl (by decide) (by omega) (by rw [hT.1.1]; omega) (by rw [hT.1.1]; decide) ?_
      rw [hT.2.1 ((K * 4) + act).toNat (by omega)]
      have y70_1 := bodA_r ((K * 4) + act).toNat
      rw [hB]
      refine j_istore rfl (by decide) ?_
      refine j_aload_n rfl rfl ?_
      refine j_iload rfl rfl ?_
      refine j_callV (ci := 0) rfl okX0_begin c_X0_21 (ct_X0_begin hA.1 ⟨hA.2.1.1, by have := hA.2.1.2; omega⟩) rfl rfl (hA.1.lt (by decide)) (hA.1.k (by decide) (by decide)) (by decide) rfl (Nat.le_of_ble_eq_true rfl) (RB.call hRB (by omega) (by decide)) ⟨Nat.le_refl _, Nat.le_refl _⟩ ?_
      rintro vq mq ⟨e1, e2⟩
      rw [e1, e2]
      clear e1 e2
      rw [Option.toList_none, List.nil_append]
      have hA := hA.one (by omega) B
      refine j_iload rfl rfl ?_
      refine j_if_ne (tgt := 100) rfl (by decide) (by omega) (by omega) (fun hb81_1 => ?_) (fun hb81_1 => ?_)
      · skip
        refine j_aload_n rfl rfl ?_
        refine j_aload_n rfl rfl ?_
        refine j_iload rfl rfl ?_
        refine j_iload rfl rfl ?_
        refine j_iload rfl rfl ?_
        refine j_iconst rfl ?_
        refine j_iadd rfl ?_
        refine j_callV (ci := 0) rfl okX0_performAbove c_X0_29 (h1 (by omega)) rfl rfl (hA.1.lt (by decide)) (hA.1.k (by decide) (by decide)) (by decide) rfl (Nat.le_of_ble_eq_true rfl) (RB.call hRB (by omega) (by decide)) ⟨Nat.le_refl _, Nat.le_refl _⟩ ?_
        rintro vq mq ⟨e1, e2⟩
        rw [e1]
        clear e1
        simp only [Option.toList_some, Option.toList_none, List.cons_append, List.nil_append]
        refine j_iret rfl rfl ?_ rfl (Nat.le_refl _)
        exact ⟨rfl, e2⟩
      · skip
        refine j_aload_n rfl rfl ?_
        refine j_aload_n rfl rfl ?_
        refine j_iload rfl rfl ?_
        refine j_iload rfl rfl ?_
        refine j_iload rfl rfl ?_
        refine j_iconst rfl ?_
        refine j_iadd rfl ?_
        refine j_callV (ci := 0) rfl okX0_performFirst c_X0_25 (h0 (by omega)) rfl rfl (hA.1.lt (by decide)) (hA.1.k (by decide) (by decide)) (by decide) rfl (Nat.le_of_ble_eq_true rfl) (RB.call hRB (by omega) (by decide)) ⟨Nat.le_refl _, Nat.le_refl _⟩ ?_
        rintro vq mq ⟨e1, e2⟩
        rw [e1]
        clear e1
        simp only [Option.toList_some, Option.toList_none, List.cons_append, List.nil_append]
        refine j_goto (tgt := 113) rfl (by decide) ?_
        refine j_iret rfl rfl ?_ rfl (Nat.le_refl _)
        exact ⟨rfl, e2⟩
    · skip
      refine j_iconst rfl ?_
      refine j_iret rfl rfl ?_ rfl (Nat.le_refl _)
      exfalso
      omega
  · skip
    refine j_iconst rfl ?_
    refine j_iret rfl rfl ?_ rfl (Nat.le_refl _)
    exfalso
    omega


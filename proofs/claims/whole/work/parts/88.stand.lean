/-- a box is dead of a fault -/
def FX9_kill (m : AM) (o : Nat) (b f : Int) : AM := (si (si (si (si (si (si m (o + 3) b.toNat f) o 7 (z_ior (mi (si m (o + 3) b.toNat f) o 7) (z_ishl 1 b))) (o + 2) (b * 4).toNat 0) (o + 2) ((b * 4) + 1).toNat 0) (o + 2) (((b * 4) + 1) + 1).toNat 0) (o + 2) ((((b * 4) + 1) + 1) + 1).toNat 0)

set_option maxRecDepth 20000 in
set_option maxHeartbeats 4000000 in
theorem ct_X9_kill {G : QW} {m : AM} {o : Nat} {b f : Int} (hO : ObA m o 9 fsStand) (hb : 0 ≤ b ∧ b ≤ 5) (hf1 : -2147483648 ≤ f) (hf2 : f < 2147483648) : qM G mX9_kill 0 0 0 [vR o, vI b, vI f] m (fun r m' => r = none ∧ m' = FX9_kill m o b f) := by
  refine qM.intro okX9_kill (Nat.le_of_ble_eq_true rfl) ?_
  refine j_aload_n rfl rfl ?_
  refine j_getR (q := (o + 3)) rfl f_X9_18 rfl hO.1 hO.2.1 (hO.q 2 3 13 6 (by decide)).1 ?_
  refine j_iload_n rfl rfl ?_
  refine j_iload_n rfl rfl ?_
  refine j_iast (n := 6) rfl (hO.q 2 3 13 6 (by decide)).2.1 (hO.q 2 3 13 6 (by decide)).2.2.1 (hO.q 2 3 13 6 (by decide)).2.2.2 (by omega) (by omega) (by first | decide | omega) ?_
  refine j_aload_n rfl rfl ?_
  refine j_dup rfl (Nat.ne_of_beq_eq_false rfl) ?_
  refine j_getI rfl f_X9_39 rfl hO.1 hO.2.1 ?_
  have u9_1 := mi_rng (si m (o + 3) b.toNat f) o 7
  refine j_iconst rfl ?_
  refine j_iload_n rfl rfl ?_
  refine j_ishl rfl ?_
  have z14_1 := z_ishl_rng 1 b
  refine j_ior rfl ?_
  have z15_1 := z_ior_rng (mi (si m (o + 3) b.toNat f) o 7) (z_ishl 1 b)
  refine j_putI rfl f_X9_39 rfl hO.1 hO.2.1 ?_
  refine j_iload_n rfl rfl ?_
  refine j_iconst rfl ?_
  refine j_imul rfl ?_
  refine j_istore_n rfl (by decide) ?_
  refine j_iload_n rfl rfl ?_
  refine j_iload_n rfl rfl ?_
  refine j_iconst rfl ?_
  refine j_imul rfl ?_
  refine j_iconst rfl ?_
  refine j_iadd rfl ?_
  refine j_icmp_ge (tgt := 45) rfl (by decide) (by omega) (by omega) (by omega) (by omega) (fun hb29_1 => ?_) (fun hb29_1 => ?_)
  · skip
    exfalso; omega
  · skip
    refine j_aload_n rfl rfl ?_
    refine j_getR (q := (o + 2)) rfl f_X9_15 rfl hO.1 hO.2.1 (hO.q 1 2 13 24 (by decide)).1 ?_
    refine j_iload_n rfl rfl ?_
    refine j_iconst rfl ?_
    refine j_iast (n := 24) rfl (hO.q 1 2 13 24 (by decide)).2.1 (hO.q 1 2 13 24 (by decide)).2.2.1 (hO.q 1 2 13 24 (by decide)).2.2.2 (by omega) (by omega) (by first | decide | omega) ?_
    refine j_iinc rfl rfl (by decide) ?_
    refine j_goto (tgt := 23) rfl (by decide) ?_
    refine j_iload_n rfl rfl ?_
    refine j_iload_n rfl rfl ?_
    refine j_iconst rfl ?_
    refine j_imul rfl ?_
    refine j_iconst rfl ?_
    refine j_iadd rfl ?_
    refine j_icmp_ge (tgt := 45) rfl (by decide) (by omega) (by omega) (by omega) (by omega) (fun hb29_2 => ?_) (fun hb29_2 => ?_)
    · skip
      exfalso; omega
    · skip
      refine j_aload_n rfl rfl ?_
      refine j_getR (q := (o + 2)) rfl f_X9_15 rfl hO.1 hO.2.1 (hO.q 1 2 13 24 (by decide)).1 ?_
      refine j_iload_n rfl rfl ?_
      refine j_iconst rfl ?_
      refine j_iast (n := 24) rfl (hO.q 1 2 13 24 (by decide)).2.1 (hO.q 1 2 13 24 (by decide)).2.2.1 (hO.q 1 2 13 24 (by decide)).2.2.2 (by omega) (by omega) (by first | decide | omega) ?_
      refine j_iinc rfl rfl (by decide) ?_
      refine j_goto (tgt := 23) rfl (by decide) ?_
      refine j_iload_n rfl rfl ?_
      refine j_iload_n rfl rfl ?_
      refine j_iconst rfl ?_
      refine j_imul rfl ?_
      refine j_iconst rfl ?_
      refine j_iadd rfl ?_
      refine j_icmp_ge (tgt := 45) rfl (by decide) (by omega) (by omega) (by omega) (by omega) (fun hb29_3 => ?_) (fun hb29_3 => ?_)
      · skip
        exfalso; omega
      · skip
        refine j_aload_n rfl rfl ?_
        refine j_getR (q := (o + 2)) rfl f_X9_15 rfl hO.1 hO.2.1 (hO.q 1 2 13 24 (by decide)).1 ?_
        refine j_iload_n rfl rfl ?_
        refine j_iconst rfl ?_
        refine j_iast (n := 24) rfl (hO.q 1 2 13 24 (by decide)).2.1 (hO.q 1 2 13 24 (by decide)).2.2.1 (hO.q 1 2 13 24 (by decide)).2.2.2 (by omega) (by omega) (by first | decide | omega) ?_
        refine j_iinc rfl rfl (by decide) ?_
        refine j_goto (tgt := 23) rfl (by decide) ?_
        refine j_iload_n rfl rfl ?_
        refine j_iload_n rfl rfl ?_
        refine j_iconst rfl ?_
        refine j_imul rfl ?_
        refine j_iconst rfl ?_
        refine j_iadd rfl ?_
        refine j_icmp_ge (tgt := 45) rfl (by decide) (by omega) (by omega) (by omega) (by omega) (fun hb29_4 => ?_) (fun hb29_4 => ?_)
        · skip
          exfalso; omega
        · skip
          refine j_aload_n rfl rfl ?_
          refine j_getR (q := (o + 2)) rfl f_X9_15 rfl hO.1 hO.2.1 (hO.q 1 2 13 24 (by decide)).1 ?_
          refine j_iload_n rfl rfl ?_
          refine j_iconst rfl ?_
          refine j_iast (n := 24) rfl (hO.q 1 2 13 24 (by decide)).2.1 (hO.q 1 2 13 24 (by decide)).2.2.1 (hO.q 1 2 13 24 (by decide)).2.2.2 (by omega) (by omega) (by first | decide | omega) ?_
          refine j_iinc rfl rfl (by decide) ?_
          refine j_goto (tgt := 23) rfl (by decide) ?_
          refine j_iload_n rfl rfl ?_
          refine j_iload_n rfl rfl ?_
          refine j_iconst rfl ?_
          refine j_imul rfl ?_
          refine j_iconst rfl ?_
          refine j_iadd rfl ?_
          refine j_icmp_ge (tgt := 45) rfl (by decide) (by omega) (by omega) (by omega) (by omega) (fun hb29_5 => ?_) (fun hb29_5 => ?_)
          · skip
            refine j_vret rfl rfl ?_ rfl (Nat.le_refl _)
            exact ⟨rfl, rfl⟩
          · skip
            exfalso; omega

/-- a box fails -/
def FX9_fail (m : AM) (o : Nat) (b t l f : Int) : AM :=
  if (mi m o 7) ≠ 0 then
    (FX9_kill (si m (o + 4) b.toNat t) o b f)
  else
    (FX9_kill (si (si (si (si (si m (o + 7) (0 : Int).toNat t) (o + 7) (1 : Int).toNat b) (o + 7) (2 : Int).toNat l) (o + 7) (3 : Int).toNat f) (o + 4) b.toNat t) o b f)

set_option maxRecDepth 20000 in
set_option maxHeartbeats 4000000 in
theorem ct_X9_fail {G : QW} {m : AM} {o : Nat} {b t l f : Int} (hO : ObA m o 9 fsStand) (hb : 0 ≤ b ∧ b ≤ 5) (hf1 : -2147483648 ≤ f) (hf2 : f < 2147483648) (ht1 : -2147483648 ≤ t) (ht2 : t < 2147483648) (hl1 : -2147483648 ≤ l) (hl2 : l < 2147483648) : qM G mX9_fail 1 0 0 [vR o, vI b, vI t, vI l, vI f] m (fun r m' => r = none ∧ m' = FX9_fail m o b t l f) := by
  refine qM.intro okX9_fail (Nat.le_of_ble_eq_true rfl) ?_
  refine j_aload_n rfl rfl ?_
  refine j_getI rfl f_X9_39 rfl hO.1 hO.2.1 ?_
  have u1_1 := mi_rng m o 7
  refine j_if_ne (tgt := 36) rfl (by decide) (by omega) (by omega) (fun hb4_1 => ?_) (fun hb4_1 => ?_)
  · skip
    refine j_aload_n rfl rfl ?_
    refine j_getR (q := (o + 4)) rfl f_X9_21 rfl hO.1 hO.2.1 (hO.q 3 4 13 6 (by decide)).1 ?_
    refine j_iload_n rfl rfl ?_
    refine j_iload_n rfl rfl ?_
    refine j_iast (n := 6) rfl (hO.q 3 4 13 6 (by decide)).2.1 (hO.q 3 4 13 6 (by decide)).2.2.1 (hO.q 3 4 13 6 (by decide)).2.2.2 (by omega) (by omega) (by first | decide | omega) ?_
    refine j_aload_n rfl rfl ?_
    refine j_iload_n rfl rfl ?_
    refine j_iload rfl rfl ?_
    refine j_callV (ci := 9) rfl okX9_kill c_X9_43 (ct_X9_kill hO hb (by omega) (by omega)) rfl rfl hO.1 hO.2.1 (by decide) rfl (Nat.le_of_ble_eq_true rfl) (by decide) (by decide) ?_
    rintro vq mq ⟨e1, e2⟩
    rw [e1, e2]
    clear e1 e2
    simp only [Option.toList_some, Option.toList_none, List.cons_append, List.nil_append]
    refine j_vret rfl rfl ?_ rfl (Nat.le_refl _)
    exact ⟨rfl, by unfold FX9_fail; first | (rw [if_pos (by omega)]; done) | (rw [if_neg (by omega)]; done)⟩
  · skip
    refine j_aload_n rfl rfl ?_
    refine j_getR (q := (o + 7)) rfl f_X9_30 rfl hO.1 hO.2.1 (hO.q 6 7 13 4 (by decide)).1 ?_
    refine j_iconst rfl ?_
    refine j_iload_n rfl rfl ?_
    refine j_iast (n := 4) rfl (hO.q 6 7 13 4 (by decide)).2.1 (hO.q 6 7 13 4 (by decide)).2.2.1 (hO.q 6 7 13 4 (by decide)).2.2.2 (by omega) (by omega) (by first | decide | omega) ?_
    refine j_aload_n rfl rfl ?_
    refine j_getR (q := (o + 7)) rfl f_X9_30 rfl hO.1 hO.2.1 (hO.q 6 7 13 4 (by decide)).1 ?_
    refine j_iconst rfl ?_
    refine j_iload_n rfl rfl ?_
    refine j_iast (n := 4) rfl (hO.q 6 7 13 4 (by decide)).2.1 (hO.q 6 7 13 4 (by decide)).2.2.1 (hO.q 6 7 13 4 (by decide)).2.2.2 (by omega) (by omega) (by first | decide | omega) ?_
    refine j_aload_n rfl rfl ?_
    refine j_getR (q := (o + 7)) rfl f_X9_30 rfl hO.1 hO.2.1 (hO.q 6 7 13 4 (by decide)).1 ?_
    refine j_iconst rfl ?_
    refine j_iload_n rfl rfl ?_
    refine j_iast (n := 4) rfl (hO.q 6 7 13 4 (by decide)).2.1 (hO.q 6 7 13 4 (by decide)).2.2.1 (hO.q 6 7 13 4 (by decide)).2.2.2 (by omega) (by omega) (by first | decide | omega) ?_
    refine j_aload_n rfl rfl ?_
    refine j_getR (q := (o + 7)) rfl f_X9_30 rfl hO.1 hO.2.1 (hO.q 6 7 13 4 (by decide)).1 ?_
    refine j_iconst rfl ?_
    refine j_iload rfl rfl ?_
    refine j_iast (n := 4) rfl (hO.q 6 7 13 4 (by decide)).2.1 (hO.q 6 7 13 4 (by decide)).2.2.1 (hO.q 6 7 13 4 (by decide)).2.2.2 (by omega) (by omega) (by first | decide | omega) ?_
    refine j_aload_n rfl rfl ?_
    refine j_getR (q := (o + 4)) rfl f_X9_21 rfl hO.1 hO.2.1 (hO.q 3 4 13 6 (by decide)).1 ?_
    refine j_iload_n rfl rfl ?_
    refine j_iload_n rfl rfl ?_
    refine j_iast (n := 6) rfl (hO.q 3 4 13 6 (by decide)).2.1 (hO.q 3 4 13 6 (by decide)).2.2.1 (hO.q 3 4 13 6 (by decide)).2.2.2 (by omega) (by omega) (by first | decide | omega) ?_
    refine j_aload_n rfl rfl ?_
    refine j_iload_n rfl rfl ?_
    refine j_iload rfl rfl ?_
    refine j_callV (ci := 9) rfl okX9_kill c_X9_43 (ct_X9_kill hO hb (by omega) (by omega)) rfl rfl hO.1 hO.2.1 (by decide) rfl (Nat.le_of_ble_eq_true rfl) (by decide) (by decide) ?_
    rintro vq mq ⟨e1, e2⟩
    rw [e1, e2]
    clear e1 e2
    simp only [Option.toList_some, Option.toList_none, List.cons_append, List.nil_append]
    refine j_vret rfl rfl ?_ rfl (Nat.le_refl _)
    exact ⟨rfl, by unfold FX9_fail; first | (rw [if_pos (by omega)]; done) | (rw [if_neg (by omega)]; done)⟩

/-- a box stands in o as in p -/
def likS (m : AM) (o p : Nat) (b : Int) : Prop := mi m (o + 3) b.toNat = mi m (p + 3) b.toNat ∧ (∀ r : Int, b * 8 ≤ r → r < b * 8 + 8 → mi m (o + 1) r.toNat = mi m (p + 1) r.toNat) ∧ (∀ r : Int, b * 4 ≤ r → r < b * 4 + 4 → mi m (o + 2) r.toNat = mi m (p + 2) r.toNat)

set_option maxRecDepth 20000 in
set_option maxHeartbeats 4000000 in
theorem lp_isLike_22 {G : QW} {R0 : Room} {m : AM} {o p : Nat} {b : Int} (hO : ObA m o 9 fsStand) (hP : ObA m p 9 fsStand) (hb : 0 ≤ b ∧ b ≤ 5) (hexit : (∀ r : Int, b * 8 ≤ r → r < b * 8 + 8 → mi m (o + 1) r.toNat = mi m (p + 1) r.toNat) → qJ G mX9_isLike R0 (qF G (fun r m' => m' = m ∧ ((likS m o p b ∧ r = some (vI 1)) ∨ (¬ likS m o p b ∧ r = some (vI 0)))) 0 0) 56 [(0, vR o), (1, vR p), (2, vI b)] [] m 0 0) : ∀ (x : Nat) (s : Int), b * 8 ≤ s → s ≤ b * 8 + 8 → b * 8 + 8 - s < x → (∀ r : Int, b * 8 ≤ r → r < s → mi m (o + 1) r.toNat = mi m (p + 1) r.toNat) → qJ G mX9_isLike R0 (qF G (fun r m' => m' = m ∧ ((likS m o p b ∧ r = some (vI 1)) ∨ (¬ likS m o p b ∧ r = some (vI 0)))) 0 0) 22 [(0, vR o), (1, vR p), (2, vI b), (3, vI s)] [] m 0 0 := by
  intro x
  induction x with
  | zero => intro s h1 h2 h3; omega
  | succ x ih =>
    intro s hs1 hs2 hs3 hA
    refine j_iload_n rfl rfl ?_
    refine j_iload_n rfl rfl ?_
    refine j_bipush rfl (by decide) ?_
    refine j_imul rfl ?_
    refine j_bipush rfl (by decide) ?_
    refine j_iadd rfl ?_
    refine j_icmp_ge (tgt := 56) rfl (by decide) (by omega) (by omega) (by omega) (by omega) (fun hb30_1 => ?_) (fun hb30_1 => ?_)
    · skip
      refine j_loc (ls' := [(0, vR o), (1, vR p), (2, vI b)]) rfl ?_
      exact hexit (fun r h1 h2 => hA r h1 (by omega))
    · skip
      refine j_aload_n rfl rfl ?_
      refine j_getR (q := (o + 1)) rfl f_X9_9 rfl hO.1 hO.2.1 (hO.q 0 1 13 48 (by decide)).1 ?_
      refine j_iload_n rfl rfl ?_
      refine j_iald (n := 48) rfl (hO.q 0 1 13 48 (by decide)).2.1 (hO.q 0 1 13 48 (by decide)).2.2.1 (hO.q 0 1 13 48 (by decide)).2.2.2 (by omega) (by omega) (by decide) ?_
      have u38_1 := mi_rng m (o + 1) s.toNat
      refine j_aload_n rfl rfl ?_
      refine j_getR (q := (p + 1)) rfl f_X9_9 rfl hP.1 hP.2.1 (hP.q 0 1 13 48 (by decide)).1 ?_
      refine j_iload_n rfl rfl ?_
      refine j_iald (n := 48) rfl (hP.q 0 1 13 48 (by decide)).2.1 (hP.q 0 1 13 48 (by decide)).2.2.1 (hP.q 0 1 13 48 (by decide)).2.2.2 (by omega) (by omega) (by decide) ?_
      have u44_1 := mi_rng m (p + 1) s.toNat
      refine j_icmp_eq (tgt := 50) rfl (by decide) (by omega) (by omega) (by omega) (by omega) (fun hb45_1 => ?_) (fun hb45_1 => ?_)
      · skip
        refine j_iinc rfl rfl (by decide) ?_
        refine j_goto (tgt := 22) rfl (by decide) ?_
        refine j_loc (ls' := [(0, vR o), (1, vR p), (2, vI b), (3, vI (s + 1))]) rfl ?_
        refine ih (s + 1) (by omega) (by omega) (by omega) (fun r h1 h2 => ?_)
        by_cases z : r = s
        · rw [z]
          exact hb45_1
        · exact hA r h1 (by omega)
      · skip
        refine j_iconst rfl ?_
        refine j_zret rfl rfl (by decide) ?_ rfl (Nat.le_refl _)
        exact ⟨rfl, Or.inr ⟨fun z => hb45_1 (z.2.1 s (by omega) (by omega)), rfl⟩⟩

set_option maxRecDepth 20000 in
set_option maxHeartbeats 4000000 in
theorem lp_isLike_60 {G : QW} {R0 : Room} {m : AM} {o p : Nat} {b : Int} (hO : ObA m o 9 fsStand) (hP : ObA m p 9 fsStand) (hb : 0 ≤ b ∧ b ≤ 5) (hexit : (∀ r : Int, b * 4 ≤ r → r < b * 4 + 4 → mi m (o + 2) r.toNat = mi m (p + 2) r.toNat) → qJ G mX9_isLike R0 (qF G (fun r m' => m' = m ∧ ((likS m o p b ∧ r = some (vI 1)) ∨ (¬ likS m o p b ∧ r = some (vI 0)))) 0 0) 92 [(0, vR o), (1, vR p), (2, vI b)] [] m 0 0) : ∀ (x : Nat) (s : Int), b * 4 ≤ s → s ≤ b * 4 + 4 → b * 4 + 4 - s < x → (∀ r : Int, b * 4 ≤ r → r < s → mi m (o + 2) r.toNat = mi m (p + 2) r.toNat) → qJ G mX9_isLike R0 (qF G (fun r m' => m' = m ∧ ((likS m o p b ∧ r = some (vI 1)) ∨ (¬ likS m o p b ∧ r = some (vI 0)))) 0 0) 60 [(0, vR o), (1, vR p), (2, vI b), (3, vI s)] [] m 0 0 := by
  intro x
  induction x with
  | zero => intro s h1 h2 h3; omega
  | succ x ih =>
    intro s hs1 hs2 hs3 hA
    refine j_iload_n rfl rfl ?_
    refine j_iload_n rfl rfl ?_
    refine j_iconst rfl ?_
    refine j_imul rfl ?_
    refine j_iconst rfl ?_
    refine j_iadd rfl ?_
    refine j_icmp_ge (tgt := 92) rfl (by decide) (by omega) (by omega) (by omega) (by omega) (fun hb66_1 => ?_) (fun hb66_1 => ?_)
    · skip
      refine j_loc (ls' := [(0, vR o), (1, vR p), (2, vI b)]) rfl ?_
      exact hexit (fun r h1 h2 => hA r h1 (by omega))
    · skip
      refine j_aload_n rfl rfl ?_
      refine j_getR (q := (o + 2)) rfl f_X9_15 rfl hO.1 hO.2.1 (hO.q 1 2 13 24 (by decide)).1 ?_
      refine j_iload_n rfl rfl ?_
      refine j_iald (n := 24) rfl (hO.q 1 2 13 24 (by decide)).2.1 (hO.q 1 2 13 24 (by decide)).2.2.1 (hO.q 1 2 13 24 (by decide)).2.2.2 (by omega) (by omega) (by decide) ?_
      have u74_1 := mi_rng m (o + 2) s.toNat
      refine j_aload_n rfl rfl ?_
      refine j_getR (q := (p + 2)) rfl f_X9_15 rfl hP.1 hP.2.1 (hP.q 1 2 13 24 (by decide)).1 ?_
      refine j_iload_n rfl rfl ?_
      refine j_iald (n := 24) rfl (hP.q 1 2 13 24 (by decide)).2.1 (hP.q 1 2 13 24 (by decide)).2.2.1 (hP.q 1 2 13 24 (by decide)).2.2.2 (by omega) (by omega) (by decide) ?_
      have u80_1 := mi_rng m (p + 2) s.toNat
      refine j_icmp_eq (tgt := 86) rfl (by decide) (by omega) (by omega) (by omega) (by omega) (fun hb81_1 => ?_) (fun hb81_1 => ?_)
      · skip
        refine j_iinc rfl rfl (by decide) ?_
        refine j_goto (tgt := 60) rfl (by decide) ?_
        refine j_loc (ls' := [(0, vR o), (1, vR p), (2, vI b), (3, vI (s + 1))]) rfl ?_
        refine ih (s + 1) (by omega) (by omega) (by omega) (fun r h1 h2 => ?_)
        by_cases z : r = s
        · rw [z]
          exact hb81_1
        · exact hA r h1 (by omega)
      · skip
        refine j_iconst rfl ?_
        refine j_zret rfl rfl (by decide) ?_ rfl (Nat.le_refl _)
        exact ⟨rfl, Or.inr ⟨fun z => hb81_1 (z.2.2 s (by omega) (by omega)), rfl⟩⟩

set_option maxRecDepth 20000 in
set_option maxHeartbeats 4000000 in
theorem ct_X9_isLike {G : QW} {m : AM} {o p : Nat} {b : Int} (hO : ObA m o 9 fsStand) (hP : ObA m p 9 fsStand) (hb : 0 ≤ b ∧ b ≤ 5) : qM G mX9_isLike 0 0 0 [vR o, vR p, vI b] m (fun r m' => m' = m ∧ ((likS m o p b ∧ r = some (vI 1)) ∨ (¬ likS m o p b ∧ r = some (vI 0)))) := by
  refine qM.intro okX9_isLike (Nat.le_of_ble_eq_true rfl) ?_
  refine j_aload_n rfl rfl ?_
  refine j_getR (q := (o + 3)) rfl f_X9_18 rfl hO.1 hO.2.1 (hO.q 2 3 13 6 (by decide)).1 ?_
  refine j_iload_n rfl rfl ?_
  refine j_iald (n := 6) rfl (hO.q 2 3 13 6 (by decide)).2.1 (hO.q 2 3 13 6 (by decide)).2.2.1 (hO.q 2 3 13 6 (by decide)).2.2.2 (by omega) (by omega) (by decide) ?_
  have u5_1 := mi_rng m (o + 3) b.toNat
  refine j_aload_n rfl rfl ?_
  refine j_getR (q := (p + 3)) rfl f_X9_18 rfl hP.1 hP.2.1 (hP.q 2 3 13 6 (by decide)).1 ?_
  refine j_iload_n rfl rfl ?_
  refine j_iald (n := 6) rfl (hP.q 2 3 13 6 (by decide)).2.1 (hP.q 2 3 13 6 (by decide)).2.2.1 (hP.q 2 3 13 6 (by decide)).2.2.2 (by omega) (by omega) (by decide) ?_
  have u11_1 := mi_rng m (p + 3) b.toNat
  refine j_icmp_eq (tgt := 17) rfl (by decide) (by omega) (by omega) (by omega) (by omega) (fun hb12_1 => ?_) (fun hb12_1 => ?_)
  · skip
    refine j_iload_n rfl rfl ?_
    refine j_bipush rfl (by decide) ?_
    refine j_imul rfl ?_
    refine j_istore_n rfl (by decide) ?_
    refine j_loc (ls' := [(0, vR o), (1, vR p), (2, vI b), (3, vI (b * 8))]) rfl ?_
    refine lp_isLike_22 hO hP hb (fun h8 => ?_) 9 (b * 8) (by omega) (by omega) (by omega) (fun r h1 h2 => absurd h1 (by omega))
    refine j_iload_n rfl rfl ?_
    refine j_iconst rfl ?_
    refine j_imul rfl ?_
    refine j_istore_n rfl (by decide) ?_
    refine j_loc (ls' := [(0, vR o), (1, vR p), (2, vI b), (3, vI (b * 4))]) rfl ?_
    refine lp_isLike_60 hO hP hb (fun h4 => ?_) 5 (b * 4) (by omega) (by omega) (by omega) (fun r h1 h2 => absurd h1 (by omega))
    refine j_iconst rfl ?_
    refine j_zret rfl rfl (by decide) ?_ rfl (Nat.le_refl _)
    exact ⟨rfl, Or.inl ⟨⟨hb12_1, h8, h4⟩, rfl⟩⟩
  · skip
    refine j_iconst rfl ?_
    refine j_zret rfl rfl (by decide) ?_ rfl (Nat.le_refl _)
    exact ⟨rfl, Or.inr ⟨fun z => hb12_1 z.1, rfl⟩⟩


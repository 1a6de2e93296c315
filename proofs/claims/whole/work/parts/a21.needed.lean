/-- a box reads from box b -/
def rdP (m : AM) (x : Nat) (b : Int) : Prop := ∃ i : Nat, i < 4 ∧ 0 ≤ mi m (x + 2) i ∧ mi m (x + 2) i / 10 = b
def rdO (m : AM) (b : Int) : Prop := ∃ o : Int, 0 ≤ o ∧ o < mi m 0 16 ∧ o ≠ b ∧ rdP m (bx m o) b

set_option maxRecDepth 20000 in
set_option maxHeartbeats 4000000 in
theorem lp_readsFrom {G : QW} {m : AM} {x : Nat} {b : Int} (hB : ObA m x 1 fsBox) (hb : -2147483648 ≤ b ∧ b < 2147483648) : ∀ (c : Nat) (i : Int), 4 - i < c → 0 ≤ i ∧ i ≤ 4 → (∀ j : Nat, (j : Int) < i → ¬ (0 ≤ mi m (x + 2) j ∧ mi m (x + 2) j / 10 = b)) → qJ G mX1_readsFrom { frames := 0, cells := 0, slots := 0, locals := 60 * 0 } (qF G (fun r m' => m' = m ∧ ((rdP m x b ∧ r = some (vI 1)) ∨ (¬ rdP m x b ∧ r = some (vI 0)))) 0 0) 2 [(0, vR x), (1, vI b), (2, vI i)] [] m 0 0 := by
  intro c
  induction c with
  | zero => intro i h1 h2; omega
  | succ c ih =>
    intro i hc hi hA
    refine j_iload_n rfl rfl ?_
    refine j_iconst rfl ?_
    refine j_icmp_ge (tgt := 37) rfl (by decide) (by omega) (by omega) (by omega) (by omega) (fun hb4_1 => ?_) (fun hb4_1 => ?_)
    · skip
      refine j_iconst rfl ?_
      refine j_zret rfl rfl (by decide) ?_ rfl (Nat.le_refl _)
      exact ⟨rfl, Or.inr ⟨fun ⟨j, h1, h2, h3⟩ => by have := hA j (by omega); omega, rfl⟩⟩
    · skip
      refine j_aload_n rfl rfl ?_
      refine j_getR (q := (x + 2)) rfl f_X1_15 rfl hB.1 hB.2.1 (hB.q 3 2 13 4 (by decide)).1 ?_
      refine j_iload_n rfl rfl ?_
      refine j_iald (n := 4) rfl (hB.q 3 2 13 4 (by decide)).2.1 (hB.q 3 2 13 4 (by decide)).2.2.1 (hB.q 3 2 13 4 (by decide)).2.2.2 (by omega) (by omega) (by decide) ?_
      have u12_1 := mi_rng m (x + 2) i.toNat
      refine j_if_lt (tgt := 31) rfl (by decide) (by omega) (by omega) (fun hb13_1 => ?_) (fun hb13_1 => ?_)
      · skip
        refine j_iinc rfl rfl (by decide) ?_
        refine j_goto (tgt := 2) rfl (by decide) ?_
        refine j_loc (ls' := [(0, vR x), (1, vI b), (2, vI (i + 1))]) rfl ?_
        exact ih (i + 1) (by omega) (by omega) (fun j hj => by
                  by_cases z : (j : Int) < i
                  · exact hA j z
                  · have e : j = i.toNat := by omega
                    rw [e]
                    omega)
      · skip
        refine j_aload_n rfl rfl ?_
        refine j_getR (q := (x + 2)) rfl f_X1_15 rfl hB.1 hB.2.1 (hB.q 3 2 13 4 (by decide)).1 ?_
        refine j_iload_n rfl rfl ?_
        refine j_iald (n := 4) rfl (hB.q 3 2 13 4 (by decide)).2.1 (hB.q 3 2 13 4 (by decide)).2.2.1 (hB.q 3 2 13 4 (by decide)).2.2.2 (by omega) (by omega) (by decide) ?_
        have u21_1 := mi_rng m (x + 2) i.toNat
        refine j_bipush rfl (by decide) ?_
        refine j_idivN rfl (by omega) (by omega) (by omega) (by omega) ?_
        refine j_iload_n rfl rfl ?_
        refine j_icmp_ne (tgt := 31) rfl (by decide) (by omega) (by omega) (by omega) (by omega) (fun hb26_1 => ?_) (fun hb26_1 => ?_)
        · skip
          refine j_iinc rfl rfl (by decide) ?_
          refine j_goto (tgt := 2) rfl (by decide) ?_
          refine j_loc (ls' := [(0, vR x), (1, vI b), (2, vI (i + 1))]) rfl ?_
          exact ih (i + 1) (by omega) (by omega) (fun j hj => by
                      by_cases z : (j : Int) < i
                      · exact hA j z
                      · have e : j = i.toNat := by omega
                        rw [e]
                        omega)
        · skip
          refine j_iconst rfl ?_
          refine j_zret rfl rfl (by decide) ?_ rfl (Nat.le_refl _)
          exact ⟨rfl, Or.inl ⟨⟨i.toNat, by omega, by omega, by omega⟩, rfl⟩⟩

set_option maxRecDepth 20000 in
set_option maxHeartbeats 4000000 in
theorem ct_readsFrom {G : QW} {m : AM} {x : Nat} {b : Int} (hB : ObA m x 1 fsBox) (hb : -2147483648 ≤ b ∧ b < 2147483648) : qM G mX1_readsFrom 0 0 0 [vR x, vI b] m (fun r m' => m' = m ∧ ((rdP m x b ∧ r = some (vI 1)) ∨ (¬ rdP m x b ∧ r = some (vI 0)))) := by
  refine qM.intro okX1_readsFrom (Nat.le_of_ble_eq_true rfl) ?_
  refine j_iconst rfl ?_
  refine j_istore_n rfl (by decide) ?_
  refine j_loc (ls' := [(0, vR x), (1, vI b), (2, vI 0)]) rfl ?_
  exact lp_readsFrom hB hb 5 0 (by decide) (by decide) (fun j hj => by omega)

set_option maxRecDepth 20000 in
set_option maxHeartbeats 4000000 in
theorem lp_isReadByOthers {G : QW} {m : AM} {b : Int} (hS : St m) (hI : IM m) (hK : ∀ b : Int, 0 ≤ b → b < mi m 0 16 → AgB m (wN m) b ∧ mi m (bx m b) 5 = mi m 90 b.toNat) (hb : -2147483648 ≤ b ∧ b < 2147483648) : ∀ (c : Nat) (i : Int), mi m 0 16 - i < c → (0 ≤ i ∧ i ≤ mi m 0 16) → (∀ o : Int, 0 ≤ o → o < i → o ≠ b → ¬ rdP m (bx m o) b) → qJ G mX11_isReadByOthers { frames := 1, cells := 0, slots := 0, locals := 60 * 1 } (qF G (fun r m' => m' = m ∧ ((rdO m b ∧ r = some (vI 1)) ∨ (¬ rdO m b ∧ r = some (vI 0)))) 0 0) 2 [(0, vR 0), (1, vI b), (2, vI i)] [] m 0 0 := by
  have h16 := hI.s 0 16 0 6 (by decide)
  intro c
  induction c with
  | zero => intro i h1 h2; omega
  | succ c ih =>
    intro i hc hi hA
    refine j_iload_n rfl rfl ?_
    refine j_aload_n rfl rfl ?_
    refine j_getI rfl f_X11_113 rfl (hS.lt (by decide)) (hS.k (by decide) (by decide)) ?_
    have u4_1 := hI.s 0 16 (0) 6 (by decide)
    refine j_icmp_ge (tgt := 36) rfl (by decide) (by omega) (by omega) (by omega) (by omega) (fun hb7_1 => ?_) (fun hb7_1 => ?_)
    · skip
      refine j_iconst rfl ?_
      refine j_zret rfl rfl (by decide) ?_ rfl (Nat.le_refl _)
      exact ⟨rfl, Or.inr ⟨fun ⟨o, h0, h1, h2, h3⟩ => hA o h0 (by omega) h2 h3, rfl⟩⟩
    · skip
      refine j_iload_n rfl rfl ?_
      refine j_iload_n rfl rfl ?_
      refine j_icmp_eq (tgt := 30) rfl (by decide) (by omega) (by omega) (by omega) (by omega) (fun hb12_1 => ?_) (fun hb12_1 => ?_)
      · skip
        refine j_iinc rfl rfl (by decide) ?_
        refine j_goto (tgt := 2) rfl (by decide) ?_
        refine j_loc (ls' := [(0, vR 0), (1, vI b), (2, vI (i + 1))]) rfl ?_
        refine ih (i + 1) (by omega) (by omega) (fun o h0 h1 h2 => ?_)
        by_cases z : o = i
        · rw [z]
          first
          | exact hn
          | (exfalso; omega)
        · exact hA o h0 (by omega) h2
      · skip
        refine j_aload_n rfl rfl ?_
        refine j_getR (q := 3) rfl f_X11_18 rfl (hS.lt (by decide)) (hS.k (by decide) (by decide)) (hS.r (by decide)) ?_
        refine j_iload_n rfl rfl ?_
        refine j_aald (k := 17) (n := 6) (v := (bx m i)) rfl (hS.lt (by decide)) (hS.k (by decide) (by decide)) el17 (hS.n (by decide) (by decide)) (by omega) (by omega) (by decide) (hK i (by omega) (by omega)).1.1.1 ?_
        refine j_iload_n rfl rfl ?_
        refine j_callV (ci := 1) rfl okX1_readsFrom c_X11_432 (ct_readsFrom (hK i (by omega) (by omega)).1.1.2.1 hb) rfl rfl (hK i (by omega) (by omega)).1.1.2.1.1 (hK i (by omega) (by omega)).1.1.2.1.2.1 (by decide) rfl (Nat.le_of_ble_eq_true rfl) (by decide) (by decide) ?_
        rintro vq mq hq
        rcases hq with ⟨e2, ⟨hn, e1⟩ | ⟨hn, e1⟩⟩
        · subst e1
          rw [e2]
          simp only [Option.toList_some, Option.toList_none, List.cons_append, List.nil_append]
          refine j_if_eq (tgt := 30) rfl (by decide) (by omega) (by omega) (fun hb25_1 => ?_) (fun hb25_1 => ?_)
          · skip
            exact absurd hb25_1 (by decide)
          · skip
            refine j_iconst rfl ?_
            refine j_zret rfl rfl (by decide) ?_ rfl (Nat.le_refl _)
            exact ⟨rfl, Or.inl ⟨⟨i, by omega, by omega, by omega, hn⟩, rfl⟩⟩
        · subst e1
          rw [e2]
          simp only [Option.toList_some, Option.toList_none, List.cons_append, List.nil_append]
          refine j_if_eq (tgt := 30) rfl (by decide) (by omega) (by omega) (fun hb25_2 => ?_) (fun hb25_2 => ?_)
          · skip
            refine j_iinc rfl rfl (by decide) ?_
            refine j_goto (tgt := 2) rfl (by decide) ?_
            refine j_loc (ls' := [(0, vR 0), (1, vI b), (2, vI (i + 1))]) rfl ?_
            refine ih (i + 1) (by omega) (by omega) (fun o h0 h1 h2 => ?_)
            by_cases z : o = i
            · rw [z]
              first
              | exact hn
              | (exfalso; omega)
            · exact hA o h0 (by omega) h2
          · skip
            exact absurd hb25_2 (by decide)

set_option maxRecDepth 20000 in
set_option maxHeartbeats 4000000 in
theorem ct_isReadByOthers {G : QW} {m : AM} {b : Int} (hS : St m) (hI : IM m) (hK : ∀ b : Int, 0 ≤ b → b < mi m 0 16 → AgB m (wN m) b ∧ mi m (bx m b) 5 = mi m 90 b.toNat) (hb : -2147483648 ≤ b ∧ b < 2147483648) : qM G mX11_isReadByOthers 1 0 0 [vR 0, vI b] m (fun r m' => m' = m ∧ ((rdO m b ∧ r = some (vI 1)) ∨ (¬ rdO m b ∧ r = some (vI 0)))) := by
  refine qM.intro okX11_isReadByOthers (Nat.le_of_ble_eq_true rfl) ?_
  refine j_iconst rfl ?_
  refine j_istore_n rfl (by decide) ?_
  refine j_loc (ls' := [(0, vR 0), (1, vI b), (2, vI 0)]) rfl ?_
  exact lp_isReadByOthers hS hI hK hb ((mi m 0 16).toNat + 1) 0 (by have := hI.s 0 16 0 6 (by decide); omega) (by have := hI.s 0 16 0 6 (by decide); omega) (fun o h0 h1 => by omega)

/-- a box stands alike -/
def zLk (S T : ZS) (b : Nat) : Prop := S.fa b = T.fa b ∧ (∀ r : Nat, r < 8 → S.sl (8 * b + r) = T.sl (8 * b + r)) ∧ ∀ p : Nat, p < 4 → S.po (4 * b + p) = T.po (4 * b + p)
theorem likS_zw {K : AM} {S T : ZS} (h1 : JC K 32 S) (h2 : JC K 40 T) {b : Nat} (hb : b < 6) : likS K 32 40 b ↔ zLk S T b := by
  unfold likS zLk
  constructor
  · rintro ⟨a1, a2, a3⟩
    refine ⟨?_, fun r hr => ?_, fun p hp => ?_⟩
    · have := h1.2.2.1 b hb
      rw [← h1.2.2.1 b hb, ← h2.2.2.1 b hb]
      exact a1
    · rw [← h1.1 _ (by omega), ← h2.1 _ (by omega)]
      have q := a2 (8 * (b : Int) + r) (by omega) (by omega)
      rw [show (8 * (b : Int) + r).toNat = 8 * b + r by omega] at q
      exact q
    · rw [← h1.2.1 _ (by omega), ← h2.2.1 _ (by omega)]
      have q := a3 (4 * (b : Int) + p) (by omega) (by omega)
      rw [show (4 * (b : Int) + p).toNat = 4 * b + p by omega] at q
      exact q
  · rintro ⟨a1, a2, a3⟩
    refine ⟨?_, fun r hr hr2 => ?_, fun p hp hp2 => ?_⟩
    · rw [show ((b : Nat) : Int).toNat = b by omega]
      exact (h1.2.2.1 b hb).trans (a1.trans (h2.2.2.1 b hb).symm)
    · have q := a2 (r - 8 * (b : Int)).toNat (by omega)
      rw [← h1.1 _ (by omega), ← h2.1 _ (by omega)] at q
      rw [show r.toNat = 8 * b + (r - 8 * (b : Int)).toNat by omega]
      exact q
    · have q := a3 (p - 4 * (b : Int)).toNat (by omega)
      rw [← h1.2.1 _ (by omega), ← h2.2.1 _ (by omega)] at q
      rw [show p.toNat = 4 * b + (p - 4 * (b : Int)).toNat by omega]
      exact q
/-- another box stands unlike -/
def zUn (nb b : Int) (S T : ZS) : Prop := ∃ o : Nat, (o : Int) < nb ∧ (o : Int) ≠ b ∧ ¬ zLk S T o
theorem bt_orL (g : Nat → Int) : ∀ n : Nat, n ≤ 31 → ∀ i : Nat, i < 32 → bt (orL g n) i = decide (i < n ∧ g i ≠ 0) := by
  intro n
  induction n with
  | zero => intro _ i _; exact (bt_0 i).trans (decide_eq_false (by omega)).symm
  | succ n ih =>
    intro hn i hi
    show bt (if g n ≠ 0 then z_ior (orL g n) (z_ishl 1 n) else orL g n) i = _
    by_cases c : g n ≠ 0
    · rw [if_pos c, bt_or, ih (by omega) i hi, bt_shl (by omega) hi]
      by_cases e : i = n
      · subst e
        rw [decide_eq_true (rfl : i = i), Bool.or_true, decide_eq_true (show i < i + 1 ∧ g i ≠ 0 from ⟨by omega, c⟩)]
      · rw [decide_eq_false e, Bool.or_false]
        exact decide_eq_decide.mpr ⟨fun q => ⟨by omega, q.2⟩, fun q => ⟨by omega, q.2⟩⟩
    · rw [if_neg c, ih (by omega) i hi]
      by_cases e : i = n
      · subst e
        exact decide_eq_decide.mpr ⟨fun q => absurd q.2 c, fun q => absurd q.2 c⟩
      · exact decide_eq_decide.mpr ⟨fun q => ⟨by omega, q.2⟩, fun q => ⟨by omega, q.2⟩⟩
theorem un_test {K : AM} {S T : ZS} (h1 : JC K 32 S) (h2 : JC K 40 T) {nb b : Int} (hn : 0 ≤ nb ∧ nb ≤ 6) (hb : 0 ≤ b ∧ b ≤ 5) : z_iand (orL (uC K) nb.toNat) (z_ixor (z_ishl 1 b) (-1)) ≠ 0 ↔ zUn nb b S T := by
  obtain ⟨k, rfl⟩ : ∃ k : Nat, b = k := ⟨b.toNat, by omega⟩
  have hr := z_iand_rng (orL (uC K) nb.toNat) (z_ixor (z_ishl 1 (k : Int)) (-1))
  have hu : ∀ o : Nat, uC K o ≠ 0 ↔ ¬ likS K 32 40 o := by
    intro o
    unfold uC
    by_cases c : likS K 32 40 o
    · rw [if_pos c]
      exact ⟨fun z => absurd rfl z, fun z => absurd c z⟩
    · rw [if_neg c]
      exact ⟨fun _ => c, fun _ => by decide⟩
  have hbit : ∀ i : Nat, i < 32 → bt (z_iand (orL (uC K) nb.toNat) (z_ixor (z_ishl 1 (k : Int)) (-1))) i = (decide (i < nb.toNat ∧ uC K i ≠ 0) && !decide (i = k)) := by
    intro i hi
    rw [bt_and, bt_not _ hi, bt_shl (by omega) hi, bt_orL _ _ (by omega) i hi]
  rw [Ne, zero_of hr.1 hr.2]
  constructor
  · intro q
    refine Classical.byContradiction (fun n => q (fun i hi => ?_))
    rw [hbit i hi]
    by_cases c1 : i < nb.toNat ∧ uC K i ≠ 0
    · by_cases c2 : i = k
      · rw [decide_eq_true c2, Bool.not_true, Bool.and_false]
      · exact absurd ⟨i, by omega, by omega, fun z => (hu i).mp c1.2 ((likS_zw h1 h2 (by omega)).mpr z)⟩ n
    · rw [decide_eq_false c1, Bool.false_and]
  · rintro ⟨o, o1, o2, o3⟩ q
    have z := q o (by omega)
    rw [hbit o (by omega), decide_eq_true (show o < nb.toNat ∧ uC K o ≠ 0 from ⟨by omega, (hu o).mpr (fun l => o3 ((likS_zw h1 h2 (by omega)).mp l))⟩), decide_eq_false (show ¬ o = k by omega)] at z
    exact absurd z (by decide)
/-- the latest tick from t downwards from which on the box is needed -/
noncomputable def zNd (W : ZW) (F : Int → Nat → Int) (b n : Int) : Nat → Int → Int
  | 0, _ => -2
  | c + 1, t => @ite Int (zUn W.nb b (zwFull W F n) (zwFlyX W F n b t 0)) (Classical.propDecidable _) t (zNd W F b n c (t - 1))


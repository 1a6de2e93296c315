/-- whether box b stands as it stood when it was kept -/
abbrev likeX (m : AM) (b : Int) : Prop := mi m 111 b.toNat = mi m 131 b.toNat ∧ (∀ s ∈ List.range 8, mi m 106 (8 * b.toNat + s) = mi m 128 (8 * b.toNat + s)) ∧ ∀ p ∈ List.range 4, mi m 107 (4 * b.toNat + p) = mi m 129 (4 * b.toNat + p) ∧ mi m 108 (4 * b.toNat + p) = mi m 130 (4 * b.toNat + p)
theorem rng_to {P : Nat → Prop} {b : Nat} {n x : Int} {k : Nat} (h : ∀ j : Nat, n ≤ (j : Int) → (j : Int) < x → P j) (hn : n = (b : Int)) (hx : x = (b : Int) + k) : ∀ s ∈ List.range k, P (b + s) := fun s hs => h (b + s) (by omega) (by have := List.mem_range.mp hs; omega)
theorem rng_no {P : Nat → Prop} {b : Nat} {j k : Nat} (h : ¬ P j) (h1 : b ≤ j) (h2 : j < b + k) : ¬ ∀ s ∈ List.range k, P (b + s) := fun g => h (by
  have := g (j - b) (List.mem_range.mpr (by omega))
  rw [show b + (j - b) = j by omega] at this
  exact this)
/-- the bits of those that are not 0 -/
def orL (f : Nat → Int) : Nat → Int
  | 0 => 0
  | n + 1 => if f n ≠ 0 then z_ior (orL f n) (z_ishl 1 n) else orL f n
theorem orL_rng (f : Nat → Int) : ∀ n : Nat, -2147483648 ≤ orL f n ∧ orL f n < 2147483648 := by
  intro n
  induction n with
  | zero => exact (by decide : -2147483648 ≤ (0 : Int) ∧ (0 : Int) < 2147483648)
  | succ n ih =>
    unfold orL
    split
    · exact z_ior_rng _ _
    · exact ih
theorem orL_up {f : Nat → Int} {s : Int} (h : 0 ≤ s) : orL f (s + 1).toNat = if f s.toNat ≠ 0 then z_ior (orL f s.toNat) (z_ishl 1 s) else orL f s.toNat := by
  rw [show (s + 1).toNat = s.toNat + 1 by omega]
  have e : (s.toNat : Int) = s := by omega
  show (if f s.toNat ≠ 0 then z_ior (orL f s.toNat) (z_ishl 1 (s.toNat : Int)) else orL f s.toNat) = _
  rw [e]
theorem IM.copF {m : AM} (h : IM m) {o1 : Nat} (o0 : Nat) (e : Int) (hA : ∀ q ∈ imA, q.1 ≠ o1) (hS : ∀ q ∈ imS, q.1 ≠ o1) (h3 : ¬ 139 = o1) (h4 : ¬ 86 = o1) (h5 : ∀ j : Nat, j < 6 → ¬ 68 + 3 * j = o1) (h6 : ¬ 0 = o1) : IM (cpr m o1 o0 e) := by
  have n : ∀ p, p ≠ o1 → ∀ j, mi (cpr m o1 o0 e) p j = mi m p j := fun p hp j => by rw [mi_cpr, if_neg (fun q => hp q.1)]
  refine ⟨fun q hq => ?_, fun q hq j => ?_, fun j hj => ?_⟩
  · rw [n q.1 (hS q hq)]
    exact h.1 q hq
  · rw [n q.1 (hA q hq)]
    exact h.2.1 q hq j
  · rw [n 139 h3, n 86 h4, n (68 + 3 * j) (h5 j hj), n 0 h6]
    exact h.2.2 j hj
theorem RI.keepR {m : AM} (h : RI m) : RI (FX12_keepRun m) := by
  unfold FX12_keepRun
  have a := h.cop (h.i.copF 106 48 (o1 := 128) (by decide) (by decide) (by decide) (by decide) (by omega) (by decide)) (by decide) (by decide)
  have b := a.cop (a.i.copF 107 24 (o1 := 129) (by decide) (by decide) (by decide) (by decide) (by omega) (by decide)) (by decide) (by decide)
  have c := b.cop (b.i.copF 108 24 (o1 := 130) (by decide) (by decide) (by decide) (by decide) (by omega) (by decide)) (by decide) (by decide)
  exact c.cop (c.i.copF 111 6 (o1 := 131) (by decide) (by decide) (by decide) (by decide) (by omega) (by decide)) (by decide) (by decide)
theorem SameP.keepR {m M : AM} (h : SameP m M) : SameP (FX12_keepRun m) (FX12_keepRun M) := (((h.cop _ _ _).cop _ _ _).cop _ _ _).cop _ _ _
theorem RI.failBy {m : AM} (h : RI m) {v : Int} (h0 : 0 ≤ v) (h1 : v ≤ 10) : RI (si m 86 45 v) := by
  have hi : IM (si m 86 45 v) := h.i.one (by decide) (by decide) (by decide) (by decide) (fun j hj e => absurd e.1 (by omega)) (by decide)
  obtain ⟨a, b, c, d⟩ := h
  have n : ∀ o j, (o ≠ 86 ∨ j ≠ 45) → mi (si m 86 45 v) o j = mi m o j := fun o j q => mi_si_ne m v (by rintro ⟨rfl, rfl⟩; omega)
  obtain ⟨⟨a1, b', c1, d1, e1, f1, g1, i1, w1⟩, r, t⟩ := a
  refine ⟨⟨⟨a1, hi, fun j => ?_, fun j => ?_, fun j => ?_, fun j => ?_, ?_, ?_, fun j => ?_⟩, fun j => ?_, fun j => ?_⟩, ?_, ?_, fun x y h0 h1 h2 h3 => ?_⟩
  · rw [n _ _ (by omega)]; exact c1 j
  · rw [n _ _ (by omega)]; exact d1 j
  · rw [n _ _ (by omega)]; exact e1 j
  · rw [n _ _ (by omega)]; exact f1 j
  · rw [n _ _ (by omega)]; exact g1
  · rw [n _ _ (by omega)]; exact i1
  · rw [n _ _ (by omega)]; exact w1 j
  · rw [n _ _ (by omega)]; exact r j
  · rw [n _ _ (by omega)]; exact t j
  · exact b.other (by decide) (by decide) (fun _ => by omega) v
  · rw [mi_si_same m 86 45 (by omega) (by omega)]; exact ⟨h0, h1⟩
  · rw [n _ _ (by omega)] at h1
    rw [n _ _ (by omega)] at h3
    exact ((Fr.rf m).one (by decide) _ _).prog (d x y h0 h1 h2 h3)

set_option maxRecDepth 20000 in
set_option maxHeartbeats 4000000 in
theorem lp_isUnlike_22 {G : QW} {m : AM} {b : Int} (hS : St m) (hb0 : 0 ≤ b) (hb5 : b ≤ 5) (hexit : (∀ j : Nat, 8 * b ≤ (j : Int) → (j : Int) < 8 * b + 8 → mi m 106 j = mi m 128 j) → qJ G mX12_isUnlike { frames := 0, cells := 0, slots := 0, locals := 60 * 0 } (qF G (fun r m' => r = some (vI (if ¬ likeX m b then 1 else 0)) ∧ m' = m) 0 0) 56 [(0, vR 86), (1, vI b)] [] m 0 0) : ∀ (c : Nat) (s : Int), s + c = 8 * b + 8 → 8 * b ≤ s → (∀ j : Nat, 8 * b ≤ (j : Int) → (j : Int) < s → mi m 106 j = mi m 128 j) → qJ G mX12_isUnlike { frames := 0, cells := 0, slots := 0, locals := 60 * 0 } (qF G (fun r m' => r = some (vI (if ¬ likeX m b then 1 else 0)) ∧ m' = m) 0 0) 22 [(0, vR 86), (1, vI b), (2, vI s)] [] m 0 0 := by
  intro c
  induction c with
  | zero =>
    intro s hc hs hq
    refine j_iload_n rfl rfl ?_
    refine j_bipush rfl (by decide) ?_
    refine j_iload_n rfl rfl ?_
    refine j_imul rfl ?_
    refine j_bipush rfl (by decide) ?_
    refine j_iadd rfl ?_
    refine j_icmp_ge (tgt := 56) rfl (by decide) (by omega) (by omega) (by omega) (by omega) (fun hb30_1 => ?_) (fun hb30_1 => ?_)
    · skip
      refine j_loc (ls' := [(0, vR 86), (1, vI b)]) rfl ?_
      exact hexit (fun j j1 j2 => hq j j1 (by omega))
    · skip
      exfalso; omega
  | succ c ih =>
    intro s hc hs hq
    refine j_iload_n rfl rfl ?_
    refine j_bipush rfl (by decide) ?_
    refine j_iload_n rfl rfl ?_
    refine j_imul rfl ?_
    refine j_bipush rfl (by decide) ?_
    refine j_iadd rfl ?_
    refine j_icmp_ge (tgt := 56) rfl (by decide) (by omega) (by omega) (by omega) (by omega) (fun hb30_1 => ?_) (fun hb30_1 => ?_)
    · skip
      exfalso; omega
    · skip
      refine j_aload_n rfl rfl ?_
      refine j_getR (q := 106) rfl f_X12_69 rfl (hS.lt (by decide)) (hS.k (by decide) (by decide)) (hS.r (by decide)) ?_
      refine j_iload_n rfl rfl ?_
      refine j_iald (n := 48) rfl (hS.lt (by decide)) (hS.k (by decide) (by decide)) (hS.n (by decide) (by decide)) (by omega) (by omega) (by decide) ?_
      have u38_1 := mi_rng m 106 s.toNat
      refine j_aload_n rfl rfl ?_
      refine j_getR (q := 128) rfl f_X12_136 rfl (hS.lt (by decide)) (hS.k (by decide) (by decide)) (hS.r (by decide)) ?_
      refine j_iload_n rfl rfl ?_
      refine j_iald (n := 48) rfl (hS.lt (by decide)) (hS.k (by decide) (by decide)) (hS.n (by decide) (by decide)) (by omega) (by omega) (by decide) ?_
      have u44_1 := mi_rng m 128 s.toNat
      refine j_icmp_eq (tgt := 50) rfl (by decide) (by omega) (by omega) (by omega) (by omega) (fun hb45_1 => ?_) (fun hb45_1 => ?_)
      · skip
        refine j_iinc rfl rfl (by decide) ?_
        refine j_goto (tgt := 22) rfl (by decide) ?_
        refine j_loc (ls' := [(0, vR 86), (1, vI b), (2, vI (s + 1))]) rfl ?_
        refine ih (s + 1) (by omega) (by omega) (fun j j1 j2 => ?_)
        by_cases e : (j : Int) < s
        · exact hq j j1 e
        · rw [show j = s.toNat by omega]; exact by omega
      · skip
        refine j_iconst rfl ?_
        refine j_zret rfl rfl (by decide) ?_ rfl (Nat.le_refl _)
        exact ⟨by rw [if_pos (fun g => rng_no (P := fun j => mi m 106 j = mi m 128 j) (j := s.toNat) (b := 8 * b.toNat) (k := 8) (by intro q; have q2 : mi m 106 s.toNat = mi m 128 s.toNat := q; omega) (by omega) (by omega) g.2.1)], rfl⟩

set_option maxRecDepth 20000 in
set_option maxHeartbeats 4000000 in
theorem lp_isUnlike_60 {G : QW} {m : AM} {b : Int} (hS : St m) (hb0 : 0 ≤ b) (hb5 : b ≤ 5) (hexit : (∀ j : Nat, 4 * b ≤ (j : Int) → (j : Int) < 4 * b + 4 → mi m 107 j = mi m 129 j ∧ mi m 108 j = mi m 130 j) → qJ G mX12_isUnlike { frames := 0, cells := 0, slots := 0, locals := 60 * 0 } (qF G (fun r m' => r = some (vI (if ¬ likeX m b then 1 else 0)) ∧ m' = m) 0 0) 107 [(0, vR 86), (1, vI b)] [] m 0 0) : ∀ (c : Nat) (s : Int), s + c = 4 * b + 4 → 4 * b ≤ s → (∀ j : Nat, 4 * b ≤ (j : Int) → (j : Int) < s → mi m 107 j = mi m 129 j ∧ mi m 108 j = mi m 130 j) → qJ G mX12_isUnlike { frames := 0, cells := 0, slots := 0, locals := 60 * 0 } (qF G (fun r m' => r = some (vI (if ¬ likeX m b then 1 else 0)) ∧ m' = m) 0 0) 60 [(0, vR 86), (1, vI b), (2, vI s)] [] m 0 0 := by
  intro c
  induction c with
  | zero =>
    intro s hc hs hq
    refine j_iload_n rfl rfl ?_
    refine j_iconst rfl ?_
    refine j_iload_n rfl rfl ?_
    refine j_imul rfl ?_
    refine j_iconst rfl ?_
    refine j_iadd rfl ?_
    refine j_icmp_ge (tgt := 107) rfl (by decide) (by omega) (by omega) (by omega) (by omega) (fun hb66_1 => ?_) (fun hb66_1 => ?_)
    · skip
      refine j_loc (ls' := [(0, vR 86), (1, vI b)]) rfl ?_
      exact hexit (fun j j1 j2 => hq j j1 (by omega))
    · skip
      exfalso; omega
  | succ c ih =>
    intro s hc hs hq
    refine j_iload_n rfl rfl ?_
    refine j_iconst rfl ?_
    refine j_iload_n rfl rfl ?_
    refine j_imul rfl ?_
    refine j_iconst rfl ?_
    refine j_iadd rfl ?_
    refine j_icmp_ge (tgt := 107) rfl (by decide) (by omega) (by omega) (by omega) (by omega) (fun hb66_1 => ?_) (fun hb66_1 => ?_)
    · skip
      exfalso; omega
    · skip
      refine j_aload_n rfl rfl ?_
      refine j_getR (q := 107) rfl f_X12_72 rfl (hS.lt (by decide)) (hS.k (by decide) (by decide)) (hS.r (by decide)) ?_
      refine j_iload_n rfl rfl ?_
      refine j_iald (n := 24) rfl (hS.lt (by decide)) (hS.k (by decide) (by decide)) (hS.n (by decide) (by decide)) (by omega) (by omega) (by decide) ?_
      have u74_1 := mi_rng m 107 s.toNat
      refine j_aload_n rfl rfl ?_
      refine j_getR (q := 129) rfl f_X12_139 rfl (hS.lt (by decide)) (hS.k (by decide) (by decide)) (hS.r (by decide)) ?_
      refine j_iload_n rfl rfl ?_
      refine j_iald (n := 24) rfl (hS.lt (by decide)) (hS.k (by decide) (by decide)) (hS.n (by decide) (by decide)) (by omega) (by omega) (by decide) ?_
      have u80_1 := mi_rng m 129 s.toNat
      refine j_icmp_ne (tgt := 99) rfl (by decide) (by omega) (by omega) (by omega) (by omega) (fun hb81_1 => ?_) (fun hb81_1 => ?_)
      · skip
        refine j_iconst rfl ?_
        refine j_zret rfl rfl (by decide) ?_ rfl (Nat.le_refl _)
        exact ⟨by rw [if_pos (fun g => rng_no (P := fun j => mi m 107 j = mi m 129 j ∧ mi m 108 j = mi m 130 j) (j := s.toNat) (b := 4 * b.toNat) (k := 4) (by intro q; have q2 : mi m 107 s.toNat = mi m 129 s.toNat ∧ mi m 108 s.toNat = mi m 130 s.toNat := q; omega) (by omega) (by omega) g.2.2)], rfl⟩
      · skip
        refine j_aload_n rfl rfl ?_
        refine j_getR (q := 108) rfl f_X12_75 rfl (hS.lt (by decide)) (hS.k (by decide) (by decide)) (hS.r (by decide)) ?_
        refine j_iload_n rfl rfl ?_
        refine j_iald (n := 24) rfl (hS.lt (by decide)) (hS.k (by decide) (by decide)) (hS.n (by decide) (by decide)) (by omega) (by omega) (by decide) ?_
        have u89_1 := mi_rng m 108 s.toNat
        refine j_aload_n rfl rfl ?_
        refine j_getR (q := 130) rfl f_X12_142 rfl (hS.lt (by decide)) (hS.k (by decide) (by decide)) (hS.r (by decide)) ?_
        refine j_iload_n rfl rfl ?_
        refine j_iald (n := 24) rfl (hS.lt (by decide)) (hS.k (by decide) (by decide)) (hS.n (by decide) (by decide)) (by omega) (by omega) (by decide) ?_
        have u95_1 := mi_rng m 130 s.toNat
        refine j_icmp_eq (tgt := 101) rfl (by decide) (by omega) (by omega) (by omega) (by omega) (fun hb96_1 => ?_) (fun hb96_1 => ?_)
        · skip
          refine j_iinc rfl rfl (by decide) ?_
          refine j_goto (tgt := 60) rfl (by decide) ?_
          refine j_loc (ls' := [(0, vR 86), (1, vI b), (2, vI (s + 1))]) rfl ?_
          refine ih (s + 1) (by omega) (by omega) (fun j j1 j2 => ?_)
          by_cases e : (j : Int) < s
          · exact hq j j1 e
          · rw [show j = s.toNat by omega]; exact ⟨by omega, by omega⟩
        · skip
          refine j_iconst rfl ?_
          refine j_zret rfl rfl (by decide) ?_ rfl (Nat.le_refl _)
          exact ⟨by rw [if_pos (fun g => rng_no (P := fun j => mi m 107 j = mi m 129 j ∧ mi m 108 j = mi m 130 j) (j := s.toNat) (b := 4 * b.toNat) (k := 4) (by intro q; have q2 : mi m 107 s.toNat = mi m 129 s.toNat ∧ mi m 108 s.toNat = mi m 130 s.toNat := q; omega) (by omega) (by omega) g.2.2)], rfl⟩

set_option maxRecDepth 20000 in
set_option maxHeartbeats 4000000 in
theorem ct_X12_isUnlike {G : QW} {m : AM} {b : Int} (hS : St m) (hI : IM m) (hb0 : 0 ≤ b) (hb5 : b ≤ 5) : qM G mX12_isUnlike 0 0 0 [vR 86, vI b] m (fun r m' => r = some (vI (if ¬ likeX m b then 1 else 0)) ∧ m' = m) := by
  refine qM.intro okX12_isUnlike (Nat.le_of_ble_eq_true rfl) ?_
  refine j_aload_n rfl rfl ?_
  refine j_getR (q := 111) rfl f_X12_84 rfl (hS.lt (by decide)) (hS.k (by decide) (by decide)) (hS.r (by decide)) ?_
  refine j_iload_n rfl rfl ?_
  refine j_zald (n := 6) rfl (hS.lt (by decide)) (hS.k (by decide) (by decide)) (hS.n (by decide) (by decide)) (by omega) (by omega) (by decide) ?_
  have u5_1 := mi_rng m 111 b.toNat
  refine j_aload_n rfl rfl ?_
  refine j_getR (q := 131) rfl f_X12_145 rfl (hS.lt (by decide)) (hS.k (by decide) (by decide)) (hS.r (by decide)) ?_
  refine j_iload_n rfl rfl ?_
  refine j_zald (n := 6) rfl (hS.lt (by decide)) (hS.k (by decide) (by decide)) (hS.n (by decide) (by decide)) (by omega) (by omega) (by decide) ?_
  have u11_1 := mi_rng m 131 b.toNat
  refine j_icmp_eq (tgt := 17) rfl (by decide) (by omega) (by omega) (by omega) (by omega) (fun hb12_1 => ?_) (fun hb12_1 => ?_)
  · skip
    refine j_bipush rfl (by decide) ?_
    refine j_iload_n rfl rfl ?_
    refine j_imul rfl ?_
    refine j_istore_n rfl (by decide) ?_
    refine j_loc (ls' := [(0, vR 86), (1, vI b), (2, vI (8 * b))]) rfl ?_
    refine lp_isUnlike_22 hS hb0 hb5 (fun g1 => ?_) 8 (8 * b) (by omega) (by omega) (fun j j1 j2 => absurd j1 (by omega))
    refine j_iconst rfl ?_
    refine j_iload_n rfl rfl ?_
    refine j_imul rfl ?_
    refine j_istore_n rfl (by decide) ?_
    refine j_loc (ls' := [(0, vR 86), (1, vI b), (2, vI (4 * b))]) rfl ?_
    refine lp_isUnlike_60 hS hb0 hb5 (fun g2 => ?_) 4 (4 * b) (by omega) (by omega) (fun j j1 j2 => absurd j1 (by omega))
    refine j_iconst rfl ?_
    refine j_zret rfl rfl (by decide) ?_ rfl (Nat.le_refl _)
    exact ⟨by rw [if_neg (fun q => q ⟨hb12_1, rng_to (P := fun j => mi m 106 j = mi m 128 j) g1 (by omega) (by omega), rng_to (P := fun j => mi m 107 j = mi m 129 j ∧ mi m 108 j = mi m 130 j) g2 (by omega) (by omega)⟩)], rfl⟩
  · skip
    refine j_iconst rfl ?_
    refine j_zret rfl rfl (by decide) ?_ rfl (Nat.le_refl _)
    exact ⟨by rw [if_pos (fun g => hb12_1 g.1)], rfl⟩

set_option maxRecDepth 20000 in
set_option maxHeartbeats 4000000 in
theorem ct_X12_areFlights {G : QW} {m : AM} (hS : St m) (hI : IM m) {fs : Int} (hfs1 : -2147483648 ≤ fs) (hfs2 : fs < 2147483648) : qM G mX12_areFlights 0 0 0 [vR 86, vI fs] m (fun r m' => r = some (vI (if 0 ≤ fs ∧ z_ishr fs (mi m 86 21) = 0 then 1 else 0)) ∧ m' = m) := by
  refine qM.intro okX12_areFlights (Nat.le_of_ble_eq_true rfl) ?_
  refine j_iload_n rfl rfl ?_
  refine j_if_lt (tgt := 17) rfl (by decide) (by omega) (by omega) (fun hb1_1 => ?_) (fun hb1_1 => ?_)
  · skip
    refine j_iconst rfl ?_
    refine j_zret rfl rfl (by decide) ?_ rfl (Nat.le_refl _)
    exact ⟨by first | (rw [if_pos (by omega)]; done) | (rw [if_neg (by omega)]; done) | (exfalso; omega), rfl⟩
  · skip
    refine j_iload_n rfl rfl ?_
    refine j_aload_n rfl rfl ?_
    refine j_getI rfl f_X12_267 rfl (hS.lt (by decide)) (hS.k (by decide) (by decide)) ?_
    have u6_1 := hI.s 86 21 (0) 8 (by decide)
    refine j_ishr rfl ?_
    have z9_1 := z_ishr_rng fs (mi m 86 21)
    refine j_if_ne (tgt := 17) rfl (by decide) (by omega) (by omega) (fun hb10_1 => ?_) (fun hb10_1 => ?_)
    · skip
      refine j_iconst rfl ?_
      refine j_zret rfl rfl (by decide) ?_ rfl (Nat.le_refl _)
      exact ⟨by first | (rw [if_pos (by omega)]; done) | (rw [if_neg (by omega)]; done) | (exfalso; omega), rfl⟩
    · skip
      refine j_iconst rfl ?_
      refine j_goto (tgt := 18) rfl (by decide) ?_
      refine j_zret rfl rfl (by decide) ?_ rfl (Nat.le_refl _)
      exact ⟨by first | (rw [if_pos (by omega)]; done) | (rw [if_neg (by omega)]; done) | (exfalso; omega), rfl⟩


/-- stores to rows on which nothing stands between two calls -/
theorem QR.own {N : AM} (h : QR N) {c k : Nat} (hc : 58 ≤ c ∧ c ≤ 61) (v : Int) : QR (si N c k v) := by
  have q : QU N (si N c k v) := (QU.rf N).cell (by unfold NQ; omega) v
  have e : ∀ o j, o < 58 ∨ 61 < o → mi (si N c k v) o j = mi N o j := fun o j ho => mi_si_ne N v (by omega)
  have i : IM (si N c k v) := h.i.oneA (by have := hc; intro z hz; have := (by decide : ∀ q ∈ imS, q.1 < 58 ∨ 61 < q.1) z hz; omega) (by intro z hz; have := (by decide : ∀ q ∈ imA, q.1 < 58 ∨ 61 < q.1) z hz; omega) (by omega) (by omega) (by intro j hj; omega) (by omega)
  have r : ∀ o, sto o → RC N o → RC (si N c k v) o := fun o ho hr => hr.same (fun r j hr => e _ _ (by unfold sto at ho; omega))
  refine ⟨h.1.ref (q.st h.s) i (fun c' j a b => e _ _ (by omega)), q.k1 h.2.1, q.k2 h.2.2.1, ⟨r 24 (Or.inl rfl) h.2.2.2.1.1, r 32 (Or.inr (Or.inl rfl)) h.2.2.2.1.2.1, r 40 (Or.inr (Or.inr rfl)) h.2.2.2.1.2.2⟩, ⟨fun j => by rw [e _ _ (by decide)]; exact h.2.2.2.2.1.1 j, fun j => by rw [e _ _ (by decide)]; exact h.2.2.2.2.1.2.1 j, fun j => by rw [e _ _ (by decide)]; exact h.2.2.2.2.1.2.2.1 j, by rw [e _ _ (by decide)]; exact h.2.2.2.2.1.2.2.2⟩, ?_⟩
  obtain ⟨a1, a2, a3, a4, a5, a6, a7, a8⟩ := h.2.2.2.2.2
  refine ⟨q.ob (by decide) a1, a2, fun i hi => ?_, fun j => ?_, fun j => ?_, fun j => ?_, fun j => ?_, fun i hi j => ?_⟩
  · exact a3 i hi
  · rw [e _ _ (by decide)]; exact a4 j
  · rw [e _ _ (by decide)]; exact a5 j
  · rw [e _ _ (by decide)]; exact a6 j
  · rw [e _ _ (by decide)]; exact a7 j
  · rw [e _ _ (by omega)]; exact a8 i hi j
/-- the dead of a set of flights -/
def kbG (g : Nat → Int) (x : Int) : Nat → Int
  | 0 => 0
  | k + 1 => if z_iand (z_ishr x k) 1 = 1 then z_ior (kbG g x k) (g k) else kbG g x k
theorem kbG_rng (g : Nat → Int) (x : Int) : ∀ n : Nat, -2147483648 ≤ kbG g x n ∧ kbG g x n < 2147483648 := by
  intro n
  induction n with
  | zero => exact (by decide : -2147483648 ≤ (0 : Int) ∧ (0 : Int) < 2147483648)
  | succ n ih =>
    unfold kbG
    split
    · exact z_ior_rng _ _
    · exact ih
theorem kbG_1 {g : Nat → Int} {x f : Int} (h0 : 0 ≤ f) (h : z_iand (z_ishr x f) 1 = 1) : kbG g x (f + 1).toNat = z_ior (kbG g x f.toNat) (g f.toNat) := by
  rw [show (f + 1).toNat = f.toNat + 1 by omega]
  show (if z_iand (z_ishr x ((f.toNat : Nat) : Int)) 1 = 1 then _ else _) = _
  rw [show ((f.toNat : Nat) : Int) = f by omega, if_pos h]
theorem kbG_0 {g : Nat → Int} {x f : Int} (h0 : 0 ≤ f) (h : z_iand (z_ishr x f) 1 ≠ 1) : kbG g x (f + 1).toNat = kbG g x f.toNat := by
  rw [show (f + 1).toNat = f.toNat + 1 by omega]
  show (if z_iand (z_ishr x ((f.toNat : Nat) : Int)) 1 = 1 then _ else _) = _
  rw [show ((f.toNat : Nat) : Int) = f by omega, if_neg h]
theorem kbG_cg {g g' : Nat → Int} {x : Int} : ∀ n : Nat, (∀ j, j < n → g j = g' j) → kbG g x n = kbG g' x n := by
  intro n
  induction n with
  | zero => intro _; rfl
  | succ n ih =>
    intro h
    unfold kbG
    rw [ih (fun j hj => h j (by omega)), h n (by omega)]
/-- sets from one on, of one size -/
def ffI (g : Nat → Int) (F bits dead size : Int) : Nat → Int → Int
  | 0, _ => -1
  | c + 1, s => if bcX s = size ∧ z_iand s (z_ixor bits (-1)) = 0 ∧ kbG g s F.toNat = dead then s else ffI g F bits dead size c (s + 1)
/-- sizes from one on -/
def ffO (g : Nat → Int) (F bits dead : Int) : Nat → Int → Int
  | 0, _ => bits
  | c + 1, z => if ffI g F bits dead z bits.toNat 0 ≥ 0 then ffI g F bits dead z bits.toNat 0 else ffO g F bits dead c (z + 1)
theorem ffI_y {g : Nat → Int} {F bits dead size : Int} {c : Nat} {s : Int} (h1 : bcX s = size) (h2 : z_iand s (z_ixor bits (-1)) = 0) (h3 : kbG g s F.toNat = dead) : ffI g F bits dead size (c + 1) s = s := if_pos ⟨h1, h2, h3⟩
theorem ffI_n {g : Nat → Int} {F bits dead size : Int} {c : Nat} {s : Int} (h : ¬ (bcX s = size ∧ z_iand s (z_ixor bits (-1)) = 0 ∧ kbG g s F.toNat = dead)) : ffI g F bits dead size (c + 1) s = ffI g F bits dead size c (s + 1) := if_neg h
theorem ffI_rng {g : Nat → Int} {F bits dead size : Int} : ∀ (c : Nat) (s : Int), 0 ≤ s → ffI g F bits dead size c s = -1 ∨ (s ≤ ffI g F bits dead size c s ∧ ffI g F bits dead size c s < s + c) := by
  intro c
  induction c with
  | zero => intro s _; exact Or.inl rfl
  | succ c ih =>
    intro s hs
    unfold ffI
    split
    · exact Or.inr ⟨by omega, by omega⟩
    · rcases ih (s + 1) (by omega) with h | h
      · exact Or.inl h
      · exact Or.inr ⟨by omega, by omega⟩
theorem ffO_rng {g : Nat → Int} {F bits dead : Int} (hb : 0 ≤ bits ∧ bits < 256) : ∀ (c : Nat) (z : Int), 0 ≤ ffO g F bits dead c z ∧ ffO g F bits dead c z < 256 := by
  intro c
  induction c with
  | zero => intro z; exact hb
  | succ c ih =>
    intro z
    unfold ffO
    split
    · have := ffI_rng (g := g) (F := F) (bits := bits) (dead := dead) (size := z) bits.toNat 0 (by decide)
      omega
    · exact ih _

set_option maxRecDepth 20000 in
set_option maxHeartbeats 4000000 in
theorem lp_killedBy {G : QW} {N : AM} {x : Int} (hS : St N) (hI : IM N) (hx : -2147483648 ≤ x ∧ x < 2147483648) : ∀ (c : Nat) (f : Int), f + c = mi N 0 17 → 0 ≤ f → qJ G mX11_killedBy { frames := 0, cells := 0, slots := 0, locals := 60 * 0 } (qF G (fun r m' => r = some (vI (kbG (mi N 58) x (mi N 0 17).toNat)) ∧ m' = N) 0 0) 4 [(0, vR 0), (1, vI x), (2, vI (kbG (mi N 58) x f.toNat)), (3, vI f)] [] N 0 0 := by
  have h17 := hI.s 0 17 0 8 (by decide)
  intro c
  induction c with
  | zero =>
    intro f hf hf0
    have ef : mi N 0 17 = f := by omega
    have hu := kbG_rng (mi N 58) x f.toNat
    refine j_iload_n rfl rfl ?_
    refine j_aload_n rfl rfl ?_
    refine j_getI rfl f_X11_156 rfl (hS.lt (by decide)) (hS.k (by decide) (by decide)) ?_
    refine j_icmp_ge (tgt := 40) rfl (by decide) (by omega) (by omega) (by omega) (by omega) (fun hb9_1 => ?_) (fun hb9_1 => by exfalso; omega)
    refine j_iload_n rfl rfl ?_
    refine j_iret rfl rfl ?_ rfl (Nat.le_refl _)
    exact ⟨by rw [ef], rfl⟩
  | succ c ih =>
    intro f hf hf0
    have hu := kbG_rng (mi N 58) x f.toNat
    refine j_iload_n rfl rfl ?_
    refine j_aload_n rfl rfl ?_
    refine j_getI rfl f_X11_156 rfl (hS.lt (by decide)) (hS.k (by decide) (by decide)) ?_
    have u6_1 := hI.s 0 17 (0) 8 (by decide)
    refine j_icmp_ge (tgt := 40) rfl (by decide) (by omega) (by omega) (by omega) (by omega) (fun hb9_1 => ?_) (fun hb9_1 => ?_)
    · skip
      exfalso; omega
    · skip
      refine j_iload_n rfl rfl ?_
      refine j_iload_n rfl rfl ?_
      refine j_iload_n rfl rfl ?_
      refine j_ishr rfl ?_
      have z15_1 := z_ishr_rng x f
      refine j_iconst rfl ?_
      refine j_iand rfl ?_
      have z17_1 := z_iand_rng (z_ishr x f) 1
      refine j_iconst rfl ?_
      refine j_icmp_ne (tgt := 31) rfl (by decide) (by omega) (by omega) (by omega) (by omega) (fun hb19_1 => ?_) (fun hb19_1 => ?_)
      · skip
        refine j_iconst rfl ?_
        refine j_ior rfl ?_
        have z32_1 := z_ior_rng (kbG (mi N 58) x f.toNat) 0
        refine j_istore_n rfl (by decide) ?_
        refine j_iinc rfl rfl (by decide) ?_
        refine j_goto (tgt := 4) rfl (by decide) ?_
        refine j_loc (ls' := [(0, vR 0), (1, vI x), (2, vI (z_ior (kbG (mi N 58) x f.toNat) 0)), (3, vI (f + 1))]) rfl ?_
        rw [zor_0 hu.1 hu.2, ← kbG_0 hf0 hb19_1]
        exact ih (f + 1) (by omega) (by omega)
      · skip
        refine j_aload_n rfl rfl ?_
        refine j_getR (q := 58) rfl f_X11_84 rfl (hS.lt (by decide)) (hS.k (by decide) (by decide)) (hS.r (by decide)) ?_
        refine j_iload_n rfl rfl ?_
        refine j_iald (n := 8) rfl (hS.lt (by decide)) (hS.k (by decide) (by decide)) (hS.n (by decide) (by decide)) (by omega) (by omega) (by decide) ?_
        have u27_1 := mi_rng N 58 f.toNat
        refine j_goto (tgt := 32) rfl (by decide) ?_
        refine j_ior rfl ?_
        have z32_2 := z_ior_rng (kbG (mi N 58) x f.toNat) (mi N 58 f.toNat)
        refine j_istore_n rfl (by decide) ?_
        refine j_iinc rfl rfl (by decide) ?_
        refine j_goto (tgt := 4) rfl (by decide) ?_
        refine j_loc (ls' := [(0, vR 0), (1, vI x), (2, vI (z_ior (kbG (mi N 58) x f.toNat) (mi N 58 f.toNat))), (3, vI (f + 1))]) rfl ?_
        rw [← kbG_1 hf0 hb19_1]
        exact ih (f + 1) (by omega) (by omega)

set_option maxRecDepth 20000 in
set_option maxHeartbeats 4000000 in
theorem ct_killedBy {G : QW} {N : AM} {x : Int} (hS : St N) (hI : IM N) (hx : -2147483648 ≤ x ∧ x < 2147483648) : qM G mX11_killedBy 0 0 0 [vR 0, vI x] N (fun r m' => r = some (vI (kbG (mi N 58) x (mi N 0 17).toNat)) ∧ m' = N) := by
  refine qM.intro okX11_killedBy (Nat.le_of_ble_eq_true rfl) ?_
  refine j_iconst rfl ?_
  refine j_istore_n rfl (by decide) ?_
  refine j_iconst rfl ?_
  refine j_istore_n rfl (by decide) ?_
  refine j_loc (ls' := [(0, vR 0), (1, vI x), (2, vI 0), (3, vI 0)]) rfl ?_
  exact lp_killedBy hS hI hx (mi N 0 17).toNat 0 (by have := hI.s 0 17 0 8 (by decide); omega) (by decide)

set_option maxRecDepth 20000 in
set_option maxHeartbeats 4000000 in
theorem lp_fewestFor_13 {G : QW} {N : AM} {bits dead z E : Int} {Rp : Option Vl → AM → Prop} (hS : St N) (hI : IM N) (hb : 0 ≤ bits ∧ bits < 256) (hd : -2147483648 ≤ dead ∧ dead < 2147483648) (hz : 0 ≤ z ∧ z ≤ 8) (hy : 0 ≤ E → Rp (some (vI E)) N) (hexit : E < 0 → qJ G mX11_fewestFor { frames := 2, cells := 0, slots := 0, locals := 60 * 2 } (qF G Rp 0 0) 56 [(0, vR 0), (1, vI bits), (2, vI dead), (3, vI z)] [] N 0 0) : ∀ (c : Nat) (s : Int), s + c = bits → 0 ≤ s → ffI (mi N 58) (mi N 0 17) bits dead z c s = E → qJ G mX11_fewestFor { frames := 2, cells := 0, slots := 0, locals := 60 * 2 } (qF G Rp 0 0) 13 [(0, vR 0), (1, vI bits), (2, vI dead), (3, vI z), (4, vI s)] [] N 0 0 := by
  intro c
  induction c with
  | zero =>
    intro s hs hs0 hE
    have e : -1 = E := hE
    refine j_iload rfl rfl ?_
    refine j_iload_n rfl rfl ?_
    refine j_icmp_ge (tgt := 56) rfl (by decide) (by omega) (by omega) (by omega) (by omega) (fun hb9_1 => ?_) (fun hb9_1 => by exfalso; omega)
    refine j_loc (ls' := [(0, vR 0), (1, vI bits), (2, vI dead), (3, vI z)]) rfl ?_
    exact hexit (by omega)
  | succ c ih =>
    intro s hs hs0 hE
    refine j_iload rfl rfl ?_
    refine j_iload_n rfl rfl ?_
    refine j_icmp_ge (tgt := 56) rfl (by decide) (by omega) (by omega) (by omega) (by omega) (fun hb16_1 => ?_) (fun hb16_1 => ?_)
    · skip
      exfalso; omega
    · skip
      refine j_iload rfl rfl ?_
      refine j_callS (As := [_]) rfl okJ6_bitCount_0f7a4 c_X11_204 (ct_bitCount (by omega) (by omega)) rfl rfl (Nat.le_of_ble_eq_true rfl) (by decide) (by decide) ?_
      rintro vq mq ⟨e1, e2⟩
      rw [e1, e2]
      clear e1 e2
      simp only [Option.toList_some, Option.toList_none, List.cons_append, List.nil_append]
      have hbc := bcX_r8 (x := s) (by omega) (by omega)
      refine j_iload_n rfl rfl ?_
      refine j_icmp_ne (tgt := 50) rfl (by decide) (by omega) (by omega) (by omega) (by omega) (fun hb25_1 => ?_) (fun hb25_1 => ?_)
      · skip
        refine j_iinc rfl rfl (by decide) ?_
        refine j_goto (tgt := 13) rfl (by decide) ?_
        refine j_loc (ls' := [(0, vR 0), (1, vI bits), (2, vI dead), (3, vI z), (4, vI (s + 1))]) rfl ?_
        exact ih (s + 1) (by omega) (by omega) (by rw [ffI_n (fun q => by have q1 := q.1; have q2 := q.2.1; have q3 := q.2.2; omega)] at hE; exact hE)
      · skip
        refine j_iload rfl rfl ?_
        refine j_iload_n rfl rfl ?_
        refine j_iconst rfl ?_
        refine j_ixor rfl ?_
        have z32_1 := z_ixor_rng bits (-1)
        refine j_iand rfl ?_
        have z33_1 := z_iand_rng s (z_ixor bits (-1))
        refine j_if_ne (tgt := 50) rfl (by decide) (by omega) (by omega) (fun hb34_1 => ?_) (fun hb34_1 => ?_)
        · skip
          refine j_iinc rfl rfl (by decide) ?_
          refine j_goto (tgt := 13) rfl (by decide) ?_
          refine j_loc (ls' := [(0, vR 0), (1, vI bits), (2, vI dead), (3, vI z), (4, vI (s + 1))]) rfl ?_
          exact ih (s + 1) (by omega) (by omega) (by rw [ffI_n (fun q => by have q1 := q.1; have q2 := q.2.1; have q3 := q.2.2; omega)] at hE; exact hE)
        · skip
          refine j_aload_n rfl rfl ?_
          refine j_iload rfl rfl ?_
          refine j_callV (ci := 11) rfl okX11_killedBy c_X11_311 (ct_killedBy hS hI (by omega)) rfl rfl (hS.lt (by decide)) (hS.k (by decide) (by decide)) (by decide) rfl (Nat.le_of_ble_eq_true rfl) (by decide) (by decide) ?_
          rintro vq mq ⟨e1, e2⟩
          rw [e1, e2]
          clear e1 e2
          simp only [Option.toList_some, Option.toList_none, List.cons_append, List.nil_append]
          have hkb := kbG_rng (mi N 58) s (mi N 0 17).toNat
          refine j_iload_n rfl rfl ?_
          refine j_icmp_ne (tgt := 50) rfl (by decide) (by omega) (by omega) (by omega) (by omega) (fun hb44_1 => ?_) (fun hb44_1 => ?_)
          · skip
            refine j_iinc rfl rfl (by decide) ?_
            refine j_goto (tgt := 13) rfl (by decide) ?_
            refine j_loc (ls' := [(0, vR 0), (1, vI bits), (2, vI dead), (3, vI z), (4, vI (s + 1))]) rfl ?_
            exact ih (s + 1) (by omega) (by omega) (by rw [ffI_n (fun q => by have q1 := q.1; have q2 := q.2.1; have q3 := q.2.2; omega)] at hE; exact hE)
          · skip
            refine j_iload rfl rfl ?_
            refine j_iret rfl rfl ?_ rfl (Nat.le_refl _)
            have e : s = E := by rw [ffI_y (by omega) (by omega) (by omega)] at hE; exact hE
            rw [e]
            exact hy (by omega)

set_option maxRecDepth 20000 in
set_option maxHeartbeats 4000000 in
theorem lp_fewestFor_2 {G : QW} {N : AM} {bits dead E : Int} (hS : St N) (hI : IM N) (hb : 0 ≤ bits ∧ bits < 256) (hd : -2147483648 ≤ dead ∧ dead < 2147483648) : ∀ (c : Nat) (z : Int), z + c = mi N 0 17 → 0 ≤ z → ffO (mi N 58) (mi N 0 17) bits dead c z = E → qJ G mX11_fewestFor { frames := 2, cells := 0, slots := 0, locals := 60 * 2 } (qF G (fun r m' => r = some (vI E) ∧ m' = N) 0 0) 2 [(0, vR 0), (1, vI bits), (2, vI dead), (3, vI z)] [] N 0 0 := by
  have h17 := hI.s 0 17 0 8 (by decide)
  intro c
  induction c with
  | zero =>
    intro z hz hz0 hE
    have e : bits = E := hE
    refine j_iload_n rfl rfl ?_
    refine j_aload_n rfl rfl ?_
    refine j_getI rfl f_X11_156 rfl (hS.lt (by decide)) (hS.k (by decide) (by decide)) ?_
    refine j_icmp_ge (tgt := 62) rfl (by decide) (by omega) (by omega) (by omega) (by omega) (fun hb9_1 => ?_) (fun hb9_1 => by exfalso; omega)
    refine j_iload_n rfl rfl ?_
    refine j_iret rfl rfl ?_ rfl (Nat.le_refl _)
    exact ⟨by rw [e], rfl⟩
  | succ c ih =>
    intro z hz hz0 hE
    refine j_iload_n rfl rfl ?_
    refine j_aload_n rfl rfl ?_
    refine j_getI rfl f_X11_156 rfl (hS.lt (by decide)) (hS.k (by decide) (by decide)) ?_
    have u4_1 := hI.s 0 17 (0) 8 (by decide)
    refine j_icmp_ge (tgt := 62) rfl (by decide) (by omega) (by omega) (by omega) (by omega) (fun hb7_1 => ?_) (fun hb7_1 => ?_)
    · skip
      exfalso; omega
    · skip
      refine j_iconst rfl ?_
      refine j_istore rfl (by decide) ?_
      refine j_loc (ls' := [(0, vR 0), (1, vI bits), (2, vI dead), (3, vI z), (4, vI 0)]) rfl ?_
      refine lp_fewestFor_13 (E := (ffI (mi N 58) (mi N 0 17) bits dead z bits.toNat 0)) hS hI hb hd (by omega) (fun hq => ?_) (fun hq => ?_) bits.toNat 0 (by omega) (by decide) rfl
      · refine ⟨?_, rfl⟩
        unfold ffO at hE
        rw [if_pos hq] at hE
        rw [hE]
      · skip
        refine j_iinc rfl rfl (by decide) ?_
        refine j_goto (tgt := 2) rfl (by decide) ?_
        refine j_loc (ls' := [(0, vR 0), (1, vI bits), (2, vI dead), (3, vI (z + 1))]) rfl ?_
        exact ih (z + 1) (by omega) (by omega) (by unfold ffO at hE; rw [if_neg (by omega)] at hE; exact hE)

set_option maxRecDepth 20000 in
set_option maxHeartbeats 4000000 in
theorem ct_fewestFor {G : QW} {N : AM} {bits dead : Int} (hS : St N) (hI : IM N) (hb : 0 ≤ bits ∧ bits < 256) (hd : -2147483648 ≤ dead ∧ dead < 2147483648) : qM G mX11_fewestFor 2 0 0 [vR 0, vI bits, vI dead] N (fun r m' => r = some (vI (ffO (mi N 58) (mi N 0 17) bits dead (mi N 0 17).toNat 0)) ∧ m' = N) := by
  refine qM.intro okX11_fewestFor (Nat.le_of_ble_eq_true rfl) ?_
  refine j_iconst rfl ?_
  refine j_istore_n rfl (by decide) ?_
  refine j_loc (ls' := [(0, vR 0), (1, vI bits), (2, vI dead), (3, vI 0)]) rfl ?_
  exact lp_fewestFor_2 hS hI hb hd (mi N 0 17).toNat 0 (by have := hI.s 0 17 0 8 (by decide); omega) (by decide) rfl


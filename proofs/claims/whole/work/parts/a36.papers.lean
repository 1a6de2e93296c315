/-- what person q had before them when they signed paper p, with what that stands on -/
def seC (m : AM) (w : Int) : Nat → Int
  | 0 => 0
  | j + 1 => z_ior (seC m w j) (if z_iand (z_ishr w j) 1 = 1 then mi m 10 j else 0)
def seX (m : AM) (q p : Int) : Int := seC m (mi m 11 ((q * 20) + p).toNat) (mi m 6 5).toNat
theorem seC_rng (m : AM) (w : Int) (n : Nat) : -2147483648 ≤ seC m w n ∧ seC m w n < 2147483648 := by
  cases n with
  | zero => exact (by decide : (-2147483648 : Int) ≤ 0 ∧ (0 : Int) < 2147483648)
  | succ n => exact z_ior_rng _ _
theorem seX_rng (m : AM) (q p : Int) : -2147483648 ≤ seX m q p ∧ seX m q p < 2147483648 := seC_rng _ _ _
theorem seC_up {m : AM} {w j : Int} (h : 0 ≤ j) : seC m w (j + 1).toNat = z_ior (seC m w j.toNat) (if z_iand (z_ishr w j) 1 = 1 then mi m 10 j.toNat else 0) := by
  rw [show (j + 1).toNat = j.toNat + 1 by omega]
  show z_ior _ (if z_iand (z_ishr w ((j.toNat : Nat) : Int)) 1 = 1 then _ else _) = _
  rw [show ((j.toNat : Nat) : Int) = j by omega]
/-- who saw -/
def wsC (m : AM) (p o : Int) : Nat → Int
  | 0 => 0
  | q + 1 => z_ior (wsC m p o q) (if mi m 11 (((q : Int) * 20) + p).toNat ≠ -1 then z_ishl (z_iand (z_ishr (seX m q p) o) 1) q else 0)
theorem wsC_rng (m : AM) (p o : Int) (n : Nat) : -2147483648 ≤ wsC m p o n ∧ wsC m p o n < 2147483648 := by
  cases n with
  | zero => exact (by decide : (-2147483648 : Int) ≤ 0 ∧ (0 : Int) < 2147483648)
  | succ n => exact z_ior_rng _ _
theorem wsC_up {m : AM} {p o q : Int} (h : 0 ≤ q) : wsC m p o (q + 1).toNat = z_ior (wsC m p o q.toNat) (if mi m 11 ((q * 20) + p).toNat ≠ -1 then z_ishl (z_iand (z_ishr (seX m q p) o) 1) q else 0) := by
  rw [show (q + 1).toNat = q.toNat + 1 by omega]
  show z_ior _ (if mi m 11 ((((q.toNat : Nat) : Int) * 20) + p).toNat ≠ -1 then z_ishl (z_iand (z_ishr (seX m ((q.toNat : Nat) : Int) p) o) 1) ((q.toNat : Nat) : Int) else 0) = _
  rw [show ((q.toNat : Nat) : Int) = q by omega]
/-- how many signed paper p -/
def snC (m : AM) (p : Int) : Nat → Int
  | 0 => 0
  | q + 1 => snC m p q + (if mi m 11 (((q : Int) * 20) + p).toNat ≠ -1 then 1 else 0)
theorem snC_rng (m : AM) (p : Int) : ∀ n : Nat, 0 ≤ snC m p n ∧ snC m p n ≤ n := by
  intro n
  induction n with
  | zero => exact (by decide : (0 : Int) ≤ 0 ∧ (0 : Int) ≤ ((0 : Nat) : Int))
  | succ n ih =>
    show 0 ≤ snC m p n + _ ∧ snC m p n + _ ≤ ((n + 1 : Nat) : Int)
    split <;> omega
theorem snC_up {m : AM} {p q : Int} (h : 0 ≤ q) : snC m p (q + 1).toNat = snC m p q.toNat + (if mi m 11 ((q * 20) + p).toNat ≠ -1 then 1 else 0) := by
  rw [show (q + 1).toNat = q.toNat + 1 by omega]
  show _ + (if mi m 11 ((((q.toNat : Nat) : Int) * 20) + p).toNat ≠ -1 then 1 else 0) = _
  rw [show ((q.toNat : Nat) : Int) = q by omega]
/-- person q signed paper p, which stands on what isn't so, and saw nothing that isn't so -/
def blP (m : AM) (so q p : Int) : Prop := mi m 11 ((q * 20) + p).toNat ≠ -1 ∧ z_iand (mi m 10 p.toNat) (z_ixor so (-1)) ≠ 0 ∧ z_iand (seX m q p) (z_ixor so (-1)) = 0
noncomputable def inI (m : AM) (so q : Int) : Nat → Int → Int
  | 0, w => w
  | p + 1, w => @ite Int (blP m so q p) (Classical.propDecidable _) (z_ior (inI m so q p w) (z_ishl 1 q)) (inI m so q p w)
theorem inI_rng (m : AM) (so q : Int) {w : Int} (hw : -2147483648 ≤ w ∧ w < 2147483648) : ∀ n : Nat, -2147483648 ≤ inI m so q n w ∧ inI m so q n w < 2147483648 := by
  intro n
  induction n with
  | zero => exact hw
  | succ n ih =>
    show -2147483648 ≤ @ite Int (blP m so q n) (Classical.propDecidable _) _ _ ∧ @ite Int (blP m so q n) (Classical.propDecidable _) _ _ < 2147483648
    split
    · exact z_ior_rng _ _
    · exact ih
theorem inI_y {m : AM} {so q p w : Int} (h : 0 ≤ p) (c : blP m so q p) : inI m so q (p + 1).toNat w = z_ior (inI m so q p.toNat w) (z_ishl 1 q) := by
  rw [show (p + 1).toNat = p.toNat + 1 by omega]
  show @ite Int (blP m so q ((p.toNat : Nat) : Int)) (Classical.propDecidable _) _ _ = _
  rw [show ((p.toNat : Nat) : Int) = p by omega]
  exact @if_pos _ (Classical.propDecidable _) c _ _ _
theorem inI_n {m : AM} {so q p w : Int} (h : 0 ≤ p) (c : ¬ blP m so q p) : inI m so q (p + 1).toNat w = inI m so q p.toNat w := by
  rw [show (p + 1).toNat = p.toNat + 1 by omega]
  show @ite Int (blP m so q ((p.toNat : Nat) : Int)) (Classical.propDecidable _) _ _ = _
  rw [show ((p.toNat : Nat) : Int) = p by omega]
  exact @if_neg _ (Classical.propDecidable _) c _ _ _
noncomputable def ouI (m : AM) (so : Int) : Nat → Int
  | 0 => 0
  | q + 1 => inI m so q (mi m 6 5).toNat (ouI m so q)
theorem ouI_rng (m : AM) (so : Int) : ∀ n : Nat, -2147483648 ≤ ouI m so n ∧ ouI m so n < 2147483648 := by
  intro n
  induction n with
  | zero => exact (by decide : (-2147483648 : Int) ≤ 0 ∧ (0 : Int) < 2147483648)
  | succ n ih => exact inI_rng _ _ _ ih _
theorem ouI_up {m : AM} {so q : Int} (h : 0 ≤ q) : ouI m so (q + 1).toNat = inI m so q (mi m 6 5).toNat (ouI m so q.toNat) := by
  rw [show (q + 1).toNat = q.toNat + 1 by omega]
  show inI m so ((q.toNat : Nat) : Int) _ _ = _
  rw [show ((q.toNat : Nat) : Int) = q by omega]

set_option maxRecDepth 20000 in
set_option maxHeartbeats 4000000 in
theorem lp_seenBy {G : QW} {m : AM} {q p w : Int} {Rp : Option Vl → AM → Prop} (hS : St m) (hI : IM m) (hw : -2147483648 ≤ w ∧ w < 2147483648) (hexit : qJ G mX4_seenBy { frames := 0, cells := 0, slots := 0, locals := 60 * 0 } (qF G Rp 0 0) 59 [(0, vR 6), (1, vI q), (2, vI p), (3, vI w), (4, vI (seC m w (mi m 6 5).toNat))] [] m 0 0) : ∀ (c : Nat) (j : Int), j + c = (mi m 6 5) → 0 ≤ j → qJ G mX4_seenBy { frames := 0, cells := 0, slots := 0, locals := 60 * 0 } (qF G Rp 0 0) 18 [(0, vR 6), (1, vI q), (2, vI p), (3, vI w), (4, vI (seC m w j.toNat)), (5, vI j)] [] m 0 0 := by
  intro c
  induction c with
  | zero =>
    intro j h0 h1
    have h65 := hI.s 6 5 0 20 (by decide)
    have hr := seC_rng m w j.toNat
    refine j_iload rfl rfl ?_
    refine j_aload_n rfl rfl ?_
    refine j_getI rfl f_X4_33 rfl (hS.lt (by decide)) (hS.k (by decide) (by decide)) ?_
    have u21_1 := hI.s 6 5 (0) 20 (by decide)
    refine j_icmp_ge (tgt := 59) rfl (by decide) (by omega) (by omega) (by omega) (by omega) (fun hb24_1 => ?_) (fun hb24_1 => ?_)
    · skip
      have he : j = (mi m 6 5) := by omega
      refine j_loc (ls' := [(0, vR 6), (1, vI q), (2, vI p), (3, vI w), (4, vI (seC m w j.toNat))]) rfl ?_
      rw [he]
      exact hexit
    · skip
      exfalso; omega
  | succ c ih =>
    intro j h0 h1
    have h65 := hI.s 6 5 0 20 (by decide)
    have hr := seC_rng m w j.toNat
    refine j_iload rfl rfl ?_
    refine j_aload_n rfl rfl ?_
    refine j_getI rfl f_X4_33 rfl (hS.lt (by decide)) (hS.k (by decide) (by decide)) ?_
    have u21_1 := hI.s 6 5 (0) 20 (by decide)
    refine j_icmp_ge (tgt := 59) rfl (by decide) (by omega) (by omega) (by omega) (by omega) (fun hb24_1 => ?_) (fun hb24_1 => ?_)
    · skip
      exfalso; omega
    · skip
      refine j_iload rfl rfl ?_
      refine j_iload_n rfl rfl ?_
      refine j_iload rfl rfl ?_
      refine j_ishr rfl ?_
      have z32_1 := z_ishr_rng w j
      refine j_iconst rfl ?_
      refine j_iand rfl ?_
      have z34_1 := z_iand_rng (z_ishr w j) 1
      refine j_iconst rfl ?_
      refine j_icmp_ne (tgt := 49) rfl (by decide) (by omega) (by omega) (by omega) (by omega) (fun hb36_1 => ?_) (fun hb36_1 => ?_)
      · skip
        refine j_iconst rfl ?_
        refine j_ior rfl ?_
        have z50_1 := z_ior_rng (seC m w j.toNat) 0
        refine j_istore rfl (by decide) ?_
        refine j_iinc rfl rfl (by decide) ?_
        refine j_goto (tgt := 18) rfl (by decide) ?_
        have hu4 : z_ior (seC m w j.toNat) 0 = (seC m w (j + 1).toNat) := by
          rw [seC_up h1]
          first | (rw [if_pos (by assumption)]; done) | (rw [if_neg (by assumption)]; done) | (rw [if_pos (by omega)]; done) | (rw [if_neg (by omega)]; done)
        refine j_loc (ls' := [(0, vR 6), (1, vI q), (2, vI p), (3, vI w), (4, vI (seC m w (j + 1).toNat)), (5, vI (j + 1))]) (by rw [← hu4]; rfl) ?_
        exact ih (j + 1) (by omega) (by omega)
      · skip
        refine j_aload_n rfl rfl ?_
        refine j_getR (q := 10) rfl f_X4_21 rfl (hS.lt (by decide)) (hS.k (by decide) (by decide)) (hS.r (by decide)) ?_
        refine j_iload rfl rfl ?_
        refine j_iald (n := 20) rfl (hS.lt (by decide)) (hS.k (by decide) (by decide)) (hS.n (by decide) (by decide)) (by omega) (by omega) (by decide) ?_
        have u45_1 := mi_rng m 10 j.toNat
        refine j_goto (tgt := 50) rfl (by decide) ?_
        refine j_ior rfl ?_
        have z50_2 := z_ior_rng (seC m w j.toNat) (mi m 10 j.toNat)
        refine j_istore rfl (by decide) ?_
        refine j_iinc rfl rfl (by decide) ?_
        refine j_goto (tgt := 18) rfl (by decide) ?_
        have hu4 : z_ior (seC m w j.toNat) (mi m 10 j.toNat) = (seC m w (j + 1).toNat) := by
          rw [seC_up h1]
          first | (rw [if_pos (by assumption)]; done) | (rw [if_neg (by assumption)]; done) | (rw [if_pos (by omega)]; done) | (rw [if_neg (by omega)]; done)
        refine j_loc (ls' := [(0, vR 6), (1, vI q), (2, vI p), (3, vI w), (4, vI (seC m w (j + 1).toNat)), (5, vI (j + 1))]) (by rw [← hu4]; rfl) ?_
        exact ih (j + 1) (by omega) (by omega)

set_option maxRecDepth 20000 in
set_option maxHeartbeats 4000000 in
theorem ct_seenBy {G : QW} {m : AM} {q p : Int} (hS : St m) (hI : IM m) (hq : 0 ≤ q ∧ q ≤ 11) (hp : 0 ≤ p ∧ p ≤ 19) : qM G mX4_seenBy 0 0 0 [vR 6, vI q, vI p] m (fun r m' => r = some (vI (seX m q p)) ∧ m' = m) := by
  refine qM.intro okX4_seenBy (Nat.le_of_ble_eq_true rfl) ?_
  refine j_aload_n rfl rfl ?_
  refine j_getR (q := 11) rfl f_X4_24 rfl (hS.lt (by decide)) (hS.k (by decide) (by decide)) (hS.r (by decide)) ?_
  refine j_iload_n rfl rfl ?_
  refine j_bipush rfl (by decide) ?_
  refine j_imul rfl ?_
  refine j_iload_n rfl rfl ?_
  refine j_iadd rfl ?_
  refine j_iald (n := 240) rfl (hS.lt (by decide)) (hS.k (by decide) (by decide)) (hS.n (by decide) (by decide)) (by omega) (by omega) (by decide) ?_
  have u10_1 := mi_rng m 11 ((q * 20) + p).toNat
  refine j_istore_n rfl (by decide) ?_
  refine j_iconst rfl ?_
  refine j_istore rfl (by decide) ?_
  refine j_iconst rfl ?_
  refine j_istore rfl (by decide) ?_
  refine j_loc (ls' := [(0, vR 6), (1, vI q), (2, vI p), (3, vI (mi m 11 ((q * 20) + p).toNat)), (4, vI (seC m (mi m 11 ((q * 20) + p).toNat) (0 : Int).toNat)), (5, vI 0)]) rfl ?_
  refine lp_seenBy hS hI (mi_rng _ _ _) ?_ (mi m 6 5).toNat 0 (by have := hI.s 6 5 0 20 (by decide); omega) (by decide)
  refine j_iload rfl rfl ?_
  refine j_iret rfl rfl ?_ rfl (Nat.le_refl _)
  exact ⟨rfl, rfl⟩

set_option maxRecDepth 20000 in
set_option maxHeartbeats 4000000 in
theorem lp_addSig {G : QW} {m : AM} {r p w : Int} {Rp : Option Vl → AM → Prop} (hS : St m) (hI : IM m) (hp : 0 ≤ p ∧ p ≤ 19) (hexit : qJ G mX4_addSignature { frames := 1, cells := 0, slots := 0, locals := 60 * 1 } (qF G Rp 0 0) 51 [(0, vR 6), (1, vI r), (2, vI p), (3, vI w), (4, vI (snC m p (12 : Int).toNat))] [] m 0 0) : ∀ (c : Nat) (q : Int), q + c = 12 → 0 ≤ q → qJ G mX4_addSignature { frames := 1, cells := 0, slots := 0, locals := 60 * 1 } (qF G Rp 0 0) 18 [(0, vR 6), (1, vI r), (2, vI p), (3, vI w), (4, vI (snC m p q.toNat)), (5, vI q)] [] m 0 0 := by
  intro c
  induction c with
  | zero =>
    intro q h0 h1
    have hr := snC_rng m p q.toNat
    refine j_iload rfl rfl ?_
    refine j_bipush rfl (by decide) ?_
    refine j_icmp_ge (tgt := 51) rfl (by decide) (by omega) (by omega) (by omega) (by omega) (fun hb22_1 => ?_) (fun hb22_1 => ?_)
    · skip
      have he : q = 12 := by omega
      refine j_loc (ls' := [(0, vR 6), (1, vI r), (2, vI p), (3, vI w), (4, vI (snC m p q.toNat))]) rfl ?_
      rw [he]
      exact hexit
    · skip
      exfalso; omega
  | succ c ih =>
    intro q h0 h1
    have hr := snC_rng m p q.toNat
    refine j_iload rfl rfl ?_
    refine j_bipush rfl (by decide) ?_
    refine j_icmp_ge (tgt := 51) rfl (by decide) (by omega) (by omega) (by omega) (by omega) (fun hb22_1 => ?_) (fun hb22_1 => ?_)
    · skip
      exfalso; omega
    · skip
      refine j_iload rfl rfl ?_
      refine j_aload_n rfl rfl ?_
      refine j_iload rfl rfl ?_
      refine j_iload_n rfl rfl ?_
      refine j_callV (ci := 4) rfl okX4_hasSigned c_X4_37 (ct_X4_hasSigned hS hI (by omega) (by omega) (by omega) (by omega) (by omega) (by omega)) rfl rfl (hS.lt (by decide)) (hS.k (by decide) (by decide)) (by decide) rfl (Nat.le_of_ble_eq_true rfl) (by decide) (by decide) ?_
      rintro vq mq ⟨e1, e2⟩
      rw [e1, e2]
      clear e1 e2
      simp only [Option.toList_some, Option.toList_none, List.cons_append, List.nil_append]
      refine j_bif_eq (tgt := 41) rfl (by decide) (fun hb34_1 => ?_) (fun hb34_1 => ?_)
      · skip
        refine j_iconst rfl ?_
        refine j_iadd rfl ?_
        refine j_istore rfl (by decide) ?_
        refine j_iinc rfl rfl (by decide) ?_
        refine j_goto (tgt := 18) rfl (by decide) ?_
        have hu4 : (snC m p q.toNat) + 0 = (snC m p (q + 1).toNat) := by
          rw [snC_up h1]
          first | (rw [if_pos (by assumption)]; done) | (rw [if_neg (by assumption)]; done) | (rw [if_pos (by omega)]; done) | (rw [if_neg (by omega)]; done)
        refine j_loc (ls' := [(0, vR 6), (1, vI r), (2, vI p), (3, vI w), (4, vI (snC m p (q + 1).toNat)), (5, vI (q + 1))]) (by rw [← hu4]; rfl) ?_
        exact ih (q + 1) (by omega) (by omega)
      · skip
        refine j_iconst rfl ?_
        refine j_goto (tgt := 42) rfl (by decide) ?_
        refine j_iadd rfl ?_
        refine j_istore rfl (by decide) ?_
        refine j_iinc rfl rfl (by decide) ?_
        refine j_goto (tgt := 18) rfl (by decide) ?_
        have hu4 : (snC m p q.toNat) + 1 = (snC m p (q + 1).toNat) := by
          rw [snC_up h1]
          first | (rw [if_pos (by assumption)]; done) | (rw [if_neg (by assumption)]; done) | (rw [if_pos (by omega)]; done) | (rw [if_neg (by omega)]; done)
        refine j_loc (ls' := [(0, vR 6), (1, vI r), (2, vI p), (3, vI w), (4, vI (snC m p (q + 1).toNat)), (5, vI (q + 1))]) (by rw [← hu4]; rfl) ?_
        exact ih (q + 1) (by omega) (by omega)

set_option maxRecDepth 20000 in
set_option maxHeartbeats 4000000 in
theorem lp_whoSaw {G : QW} {m : AM} {p o : Int} {Rp : Option Vl → AM → Prop} (hS : St m) (hI : IM m) (hp : 0 ≤ p ∧ p ≤ 19) (ho : 0 ≤ o ∧ o ≤ 19) (hexit : qJ G mX4_whoSaw { frames := 1, cells := 0, slots := 0, locals := 60 * 1 } (qF G Rp 0 0) 49 [(0, vR 6), (1, vI p), (2, vI o), (3, vI (wsC m p o (12 : Int).toNat))] [] m 0 0) : ∀ (c : Nat) (q : Int), q + c = 12 → 0 ≤ q → qJ G mX4_whoSaw { frames := 1, cells := 0, slots := 0, locals := 60 * 1 } (qF G Rp 0 0) 5 [(0, vR 6), (1, vI p), (2, vI o), (3, vI (wsC m p o q.toNat)), (4, vI q)] [] m 0 0 := by
  intro c
  induction c with
  | zero =>
    intro q h0 h1
    have hr := wsC_rng m p o q.toNat
    have hs := seX_rng m q p
    refine j_iload rfl rfl ?_
    refine j_bipush rfl (by decide) ?_
    refine j_icmp_ge (tgt := 49) rfl (by decide) (by omega) (by omega) (by omega) (by omega) (fun hb9_1 => ?_) (fun hb9_1 => ?_)
    · skip
      have he : q = 12 := by omega
      refine j_loc (ls' := [(0, vR 6), (1, vI p), (2, vI o), (3, vI (wsC m p o q.toNat))]) rfl ?_
      rw [he]
      exact hexit
    · skip
      exfalso; omega
  | succ c ih =>
    intro q h0 h1
    have hr := wsC_rng m p o q.toNat
    have hs := seX_rng m q p
    refine j_iload rfl rfl ?_
    refine j_bipush rfl (by decide) ?_
    refine j_icmp_ge (tgt := 49) rfl (by decide) (by omega) (by omega) (by omega) (by omega) (fun hb9_1 => ?_) (fun hb9_1 => ?_)
    · skip
      exfalso; omega
    · skip
      refine j_iload_n rfl rfl ?_
      refine j_aload_n rfl rfl ?_
      refine j_iload rfl rfl ?_
      refine j_iload_n rfl rfl ?_
      refine j_callV (ci := 4) rfl okX4_hasSigned c_X4_37 (ct_X4_hasSigned hS hI (by omega) (by omega) (by omega) (by omega) (by omega) (by omega)) rfl rfl (hS.lt (by decide)) (hS.k (by decide) (by decide)) (by decide) rfl (Nat.le_of_ble_eq_true rfl) (by decide) (by decide) ?_
      rintro vq mq ⟨e1, e2⟩
      rw [e1, e2]
      clear e1 e2
      simp only [Option.toList_some, Option.toList_none, List.cons_append, List.nil_append]
      refine j_bif_eq (tgt := 40) rfl (by decide) (fun hb20_1 => ?_) (fun hb20_1 => ?_)
      · skip
        refine j_iconst rfl ?_
        refine j_ior rfl ?_
        have z41_1 := z_ior_rng (wsC m p o q.toNat) 0
        refine j_istore_n rfl (by decide) ?_
        refine j_iinc rfl rfl (by decide) ?_
        refine j_goto (tgt := 5) rfl (by decide) ?_
        have hu3 : z_ior (wsC m p o q.toNat) 0 = (wsC m p o (q + 1).toNat) := by
          rw [wsC_up h1]
          first | (rw [if_pos (by assumption)]; done) | (rw [if_neg (by assumption)]; done) | (rw [if_pos (by omega)]; done) | (rw [if_neg (by omega)]; done)
        refine j_loc (ls' := [(0, vR 6), (1, vI p), (2, vI o), (3, vI (wsC m p o (q + 1).toNat)), (4, vI (q + 1))]) (by rw [← hu3]; rfl) ?_
        exact ih (q + 1) (by omega) (by omega)
      · skip
        refine j_aload_n rfl rfl ?_
        refine j_iload rfl rfl ?_
        refine j_iload_n rfl rfl ?_
        refine j_callV (ci := 4) rfl okX4_seenBy c_X4_41 (ct_seenBy hS hI (by omega) (by omega)) rfl rfl (hS.lt (by decide)) (hS.k (by decide) (by decide)) (by decide) rfl (Nat.le_of_ble_eq_true rfl) (by decide) (by decide) ?_
        rintro vq mq ⟨e1, e2⟩
        rw [e1, e2]
        clear e1 e2
        simp only [Option.toList_some, Option.toList_none, List.cons_append, List.nil_append]
        refine j_iload_n rfl rfl ?_
        refine j_ishr rfl ?_
        have z31_1 := z_ishr_rng (seX m q p) o
        refine j_iconst rfl ?_
        refine j_iand rfl ?_
        have z33_1 := z_iand_rng (z_ishr (seX m q p) o) 1
        refine j_iload rfl rfl ?_
        refine j_ishl rfl ?_
        have z36_1 := z_ishl_rng (z_iand (z_ishr (seX m q p) o) 1) q
        refine j_goto (tgt := 41) rfl (by decide) ?_
        refine j_ior rfl ?_
        have z41_2 := z_ior_rng (wsC m p o q.toNat) (z_ishl (z_iand (z_ishr (seX m q p) o) 1) q)
        refine j_istore_n rfl (by decide) ?_
        refine j_iinc rfl rfl (by decide) ?_
        refine j_goto (tgt := 5) rfl (by decide) ?_
        have hu3 : z_ior (wsC m p o q.toNat) (z_ishl (z_iand (z_ishr (seX m q p) o) 1) q) = (wsC m p o (q + 1).toNat) := by
          rw [wsC_up h1]
          first | (rw [if_pos (by assumption)]; done) | (rw [if_neg (by assumption)]; done) | (rw [if_pos (by omega)]; done) | (rw [if_neg (by omega)]; done)
        refine j_loc (ls' := [(0, vR 6), (1, vI p), (2, vI o), (3, vI (wsC m p o (q + 1).toNat)), (4, vI (q + 1))]) (by rw [← hu3]; rfl) ?_
        exact ih (q + 1) (by omega) (by omega)

set_option maxRecDepth 20000 in
set_option maxHeartbeats 4000000 in
theorem lp_blindI {G : QW} {m : AM} {so q w0 : Int} {Rp : Option Vl → AM → Prop} (hS : St m) (hI : IM m) (hw0 : -2147483648 ≤ w0 ∧ w0 < 2147483648) (hso : -2147483648 ≤ so ∧ so < 2147483648) (hq : 0 ≤ q ∧ q ≤ 11) (hexit : qJ G mX4_whoIsBlind { frames := 1, cells := 0, slots := 0, locals := 60 * 1 } (qF G Rp 0 0) 72 [(0, vR 6), (1, vI so), (2, vI (inI m so q (mi m 6 5).toNat w0)), (3, vI q)] [] m 0 0) : ∀ (c : Nat) (p : Int), p + c = (mi m 6 5) → 0 ≤ p → qJ G mX4_whoIsBlind { frames := 1, cells := 0, slots := 0, locals := 60 * 1 } (qF G Rp 0 0) 13 [(0, vR 6), (1, vI so), (2, vI (inI m so q p.toNat w0)), (3, vI q), (4, vI p)] [] m 0 0 := by
  intro c
  induction c with
  | zero =>
    intro p h0 h1
    have h65 := hI.s 6 5 0 20 (by decide)
    have hr := inI_rng m so q hw0 p.toNat
    have hs := seX_rng m q p
    refine j_iload rfl rfl ?_
    refine j_aload_n rfl rfl ?_
    refine j_getI rfl f_X4_33 rfl (hS.lt (by decide)) (hS.k (by decide) (by decide)) ?_
    have u16_1 := hI.s 6 5 (0) 20 (by decide)
    refine j_icmp_ge (tgt := 72) rfl (by decide) (by omega) (by omega) (by omega) (by omega) (fun hb19_1 => ?_) (fun hb19_1 => ?_)
    · skip
      have he : p = (mi m 6 5) := by omega
      refine j_loc (ls' := [(0, vR 6), (1, vI so), (2, vI (inI m so q p.toNat w0)), (3, vI q)]) rfl ?_
      rw [he]
      exact hexit
    · skip
      exfalso; omega
  | succ c ih =>
    intro p h0 h1
    have h65 := hI.s 6 5 0 20 (by decide)
    have hr := inI_rng m so q hw0 p.toNat
    have hs := seX_rng m q p
    refine j_iload rfl rfl ?_
    refine j_aload_n rfl rfl ?_
    refine j_getI rfl f_X4_33 rfl (hS.lt (by decide)) (hS.k (by decide) (by decide)) ?_
    have u16_1 := hI.s 6 5 (0) 20 (by decide)
    refine j_icmp_ge (tgt := 72) rfl (by decide) (by omega) (by omega) (by omega) (by omega) (fun hb19_1 => ?_) (fun hb19_1 => ?_)
    · skip
      exfalso; omega
    · skip
      refine j_aload_n rfl rfl ?_
      refine j_iload_n rfl rfl ?_
      refine j_iload rfl rfl ?_
      refine j_callV (ci := 4) rfl okX4_hasSigned c_X4_37 (ct_X4_hasSigned hS hI (by omega) (by omega) (by omega) (by omega) (by omega) (by omega)) rfl rfl (hS.lt (by decide)) (hS.k (by decide) (by decide)) (by decide) rfl (Nat.le_of_ble_eq_true rfl) (by decide) (by decide) ?_
      rintro vq mq ⟨e1, e2⟩
      rw [e1, e2]
      clear e1 e2
      simp only [Option.toList_some, Option.toList_none, List.cons_append, List.nil_append]
      refine j_bif_eq (tgt := 66) rfl (by decide) (fun hb29_1 => ?_) (fun hb29_1 => ?_)
      · skip
        refine j_iinc rfl rfl (by decide) ?_
        refine j_goto (tgt := 13) rfl (by decide) ?_
        have hu2 : (inI m so q p.toNat w0) = (inI m so q (p + 1).toNat w0) := by
          have c : ¬ blP m so q p := fun z => by
            obtain ⟨z1, z2, z3⟩ := z
            first | exact absurd z1 (by assumption) | exact absurd (by assumption) z2 | exact absurd z3 (by assumption)
          rw [inI_n h1 c]
        refine j_loc (ls' := [(0, vR 6), (1, vI so), (2, vI (inI m so q (p + 1).toNat w0)), (3, vI q), (4, vI (p + 1))]) (by rw [← hu2]; rfl) ?_
        exact ih (p + 1) (by omega) (by omega)
      · skip
        refine j_aload_n rfl rfl ?_
        refine j_getR (q := 10) rfl f_X4_21 rfl (hS.lt (by decide)) (hS.k (by decide) (by decide)) (hS.r (by decide)) ?_
        refine j_iload rfl rfl ?_
        refine j_iald (n := 20) rfl (hS.lt (by decide)) (hS.k (by decide) (by decide)) (hS.n (by decide) (by decide)) (by omega) (by omega) (by decide) ?_
        have u38_1 := mi_rng m 10 p.toNat
        refine j_iload_n rfl rfl ?_
        refine j_iconst rfl ?_
        refine j_ixor rfl ?_
        have z41_1 := z_ixor_rng so (-1)
        refine j_iand rfl ?_
        have z42_1 := z_iand_rng (mi m 10 p.toNat) (z_ixor so (-1))
        refine j_if_eq (tgt := 66) rfl (by decide) (by omega) (by omega) (fun hb43_1 => ?_) (fun hb43_1 => ?_)
        · skip
          refine j_iinc rfl rfl (by decide) ?_
          refine j_goto (tgt := 13) rfl (by decide) ?_
          have hu2 : (inI m so q p.toNat w0) = (inI m so q (p + 1).toNat w0) := by
            have c : ¬ blP m so q p := fun z => by
              obtain ⟨z1, z2, z3⟩ := z
              first | exact absurd z1 (by assumption) | exact absurd (by assumption) z2 | exact absurd z3 (by assumption)
            rw [inI_n h1 c]
          refine j_loc (ls' := [(0, vR 6), (1, vI so), (2, vI (inI m so q (p + 1).toNat w0)), (3, vI q), (4, vI (p + 1))]) (by rw [← hu2]; rfl) ?_
          exact ih (p + 1) (by omega) (by omega)
        · skip
          refine j_aload_n rfl rfl ?_
          refine j_iload_n rfl rfl ?_
          refine j_iload rfl rfl ?_
          refine j_callV (ci := 4) rfl okX4_seenBy c_X4_41 (ct_seenBy hS hI (by omega) (by omega)) rfl rfl (hS.lt (by decide)) (hS.k (by decide) (by decide)) (by decide) rfl (Nat.le_of_ble_eq_true rfl) (by decide) (by decide) ?_
          rintro vq mq ⟨e1, e2⟩
          rw [e1, e2]
          clear e1 e2
          simp only [Option.toList_some, Option.toList_none, List.cons_append, List.nil_append]
          refine j_iload_n rfl rfl ?_
          refine j_iconst rfl ?_
          refine j_ixor rfl ?_
          have z55_1 := z_ixor_rng so (-1)
          refine j_iand rfl ?_
          have z56_1 := z_iand_rng (seX m q p) (z_ixor so (-1))
          refine j_if_ne (tgt := 66) rfl (by decide) (by omega) (by omega) (fun hb57_1 => ?_) (fun hb57_1 => ?_)
          · skip
            refine j_iinc rfl rfl (by decide) ?_
            refine j_goto (tgt := 13) rfl (by decide) ?_
            have hu2 : (inI m so q p.toNat w0) = (inI m so q (p + 1).toNat w0) := by
              have c : ¬ blP m so q p := fun z => by
                obtain ⟨z1, z2, z3⟩ := z
                first | exact absurd z1 (by assumption) | exact absurd (by assumption) z2 | exact absurd z3 (by assumption)
              rw [inI_n h1 c]
            refine j_loc (ls' := [(0, vR 6), (1, vI so), (2, vI (inI m so q (p + 1).toNat w0)), (3, vI q), (4, vI (p + 1))]) (by rw [← hu2]; rfl) ?_
            exact ih (p + 1) (by omega) (by omega)
          · skip
            refine j_iload_n rfl rfl ?_
            refine j_iconst rfl ?_
            refine j_iload_n rfl rfl ?_
            refine j_ishl rfl ?_
            have z63_1 := z_ishl_rng 1 q
            refine j_ior rfl ?_
            have z64_1 := z_ior_rng (inI m so q p.toNat w0) (z_ishl 1 q)
            refine j_istore_n rfl (by decide) ?_
            refine j_iinc rfl rfl (by decide) ?_
            refine j_goto (tgt := 13) rfl (by decide) ?_
            have hu2 : z_ior (inI m so q p.toNat w0) (z_ishl 1 q) = (inI m so q (p + 1).toNat w0) := by
              have c : blP m so q p := ⟨hb29_1, hb43_1, hb57_1⟩
              rw [inI_y h1 c]
            refine j_loc (ls' := [(0, vR 6), (1, vI so), (2, vI (inI m so q (p + 1).toNat w0)), (3, vI q), (4, vI (p + 1))]) (by rw [← hu2]; rfl) ?_
            exact ih (p + 1) (by omega) (by omega)

set_option maxRecDepth 20000 in
set_option maxHeartbeats 4000000 in
theorem lp_blindO {G : QW} {m : AM} {so : Int} {Rp : Option Vl → AM → Prop} (hS : St m) (hI : IM m) (hso : -2147483648 ≤ so ∧ so < 2147483648) (hexit : qJ G mX4_whoIsBlind { frames := 1, cells := 0, slots := 0, locals := 60 * 1 } (qF G Rp 0 0) 78 [(0, vR 6), (1, vI so), (2, vI (ouI m so (12 : Int).toNat))] [] m 0 0) : ∀ (c : Nat) (q : Int), q + c = 12 → 0 ≤ q → qJ G mX4_whoIsBlind { frames := 1, cells := 0, slots := 0, locals := 60 * 1 } (qF G Rp 0 0) 4 [(0, vR 6), (1, vI so), (2, vI (ouI m so q.toNat)), (3, vI q)] [] m 0 0 := by
  intro c
  induction c with
  | zero =>
    intro q h0 h1
    have h65 := hI.s 6 5 0 20 (by decide)
    have hr := ouI_rng m so q.toNat
    refine j_iload_n rfl rfl ?_
    refine j_bipush rfl (by decide) ?_
    refine j_icmp_ge (tgt := 78) rfl (by decide) (by omega) (by omega) (by omega) (by omega) (fun hb7_1 => ?_) (fun hb7_1 => ?_)
    · skip
      have he : q = 12 := by omega
      refine j_loc (ls' := [(0, vR 6), (1, vI so), (2, vI (ouI m so q.toNat))]) rfl ?_
      rw [he]
      exact hexit
    · skip
      exfalso; omega
  | succ c ih =>
    intro q h0 h1
    have h65 := hI.s 6 5 0 20 (by decide)
    have hr := ouI_rng m so q.toNat
    refine j_iload_n rfl rfl ?_
    refine j_bipush rfl (by decide) ?_
    refine j_icmp_ge (tgt := 78) rfl (by decide) (by omega) (by omega) (by omega) (by omega) (fun hb7_1 => ?_) (fun hb7_1 => ?_)
    · skip
      exfalso; omega
    · skip
      refine j_iconst rfl ?_
      refine j_istore rfl (by decide) ?_
      refine j_loc (ls' := [(0, vR 6), (1, vI so), (2, vI (inI m so q (0 : Int).toNat (ouI m so q.toNat))), (3, vI q), (4, vI 0)]) rfl ?_
      refine lp_blindI hS hI hr hso (by omega) ?_ (mi m 6 5).toNat 0 (by omega) (by decide)
      refine j_iinc rfl rfl (by decide) ?_
      refine j_goto (tgt := 4) rfl (by decide) ?_
      have hu2 : (inI m so q (mi m 6 5).toNat (ouI m so q.toNat)) = (ouI m so (q + 1).toNat) := by
        rw [ouI_up h1]
      refine j_loc (ls' := [(0, vR 6), (1, vI so), (2, vI (ouI m so (q + 1).toNat)), (3, vI (q + 1))]) (by rw [← hu2]; rfl) ?_
      exact ih (q + 1) (by omega) (by omega)

set_option maxRecDepth 20000 in
set_option maxHeartbeats 4000000 in
theorem ct_whoSaw {G : QW} {m : AM} {p o : Int} (hS : St m) (hI : IM m) (hp : 0 ≤ p ∧ p ≤ 19) (ho : 0 ≤ o ∧ o ≤ 19) : qM G mX4_whoSaw 1 0 0 [vR 6, vI p, vI o] m (fun r m' => r = some (vI (wsC m p o 12)) ∧ m' = m) := by
  refine qM.intro okX4_whoSaw (Nat.le_of_ble_eq_true rfl) ?_
  refine j_iconst rfl ?_
  refine j_istore_n rfl (by decide) ?_
  refine j_iconst rfl ?_
  refine j_istore rfl (by decide) ?_
  refine j_loc (ls' := [(0, vR 6), (1, vI p), (2, vI o), (3, vI (wsC m p o (0 : Int).toNat)), (4, vI 0)]) rfl ?_
  refine lp_whoSaw hS hI (by omega) (by omega) ?_ 12 0 (by omega) (by decide)
  refine j_iload_n rfl rfl ?_
  refine j_iret rfl rfl ?_ rfl (Nat.le_refl _)
  exact ⟨rfl, rfl⟩

set_option maxRecDepth 20000 in
set_option maxHeartbeats 4000000 in
theorem ct_whoIsBlind {G : QW} {m : AM} {so : Int} (hS : St m) (hI : IM m) (hso : -2147483648 ≤ so ∧ so < 2147483648) : qM G mX4_whoIsBlind 1 0 0 [vR 6, vI so] m (fun r m' => r = some (vI (ouI m so 12)) ∧ m' = m) := by
  refine qM.intro okX4_whoIsBlind (Nat.le_of_ble_eq_true rfl) ?_
  refine j_iconst rfl ?_
  refine j_istore_n rfl (by decide) ?_
  refine j_iconst rfl ?_
  refine j_istore_n rfl (by decide) ?_
  refine j_loc (ls' := [(0, vR 6), (1, vI so), (2, vI (ouI m so (0 : Int).toNat)), (3, vI 0)]) rfl ?_
  refine lp_blindO hS hI (by omega) ?_ 12 0 (by omega) (by decide)
  refine j_iload_n rfl rfl ?_
  refine j_iret rfl rfl ?_ rfl (Nat.le_refl _)
  exact ⟨rfl, rfl⟩

set_option maxRecDepth 20000 in
set_option maxHeartbeats 4000000 in
theorem ct_addSignature {G : QW} {m : AM} {q p w : Int} (hS : St m) (hI : IM m) (hI2 : IM (si m 11 ((q * 20) + p).toNat w)) (hq : 0 ≤ q ∧ q ≤ 11) (hp : 0 ≤ p ∧ p ≤ 19) (hw : -2147483648 ≤ w ∧ w < 2147483648) : qM G mX4_addSignature 1 0 0 [vR 6, vI q, vI p, vI w] m (fun r m' => r = some (vI (snC (si m 11 ((q * 20) + p).toNat w) p 12)) ∧ m' = (si m 11 ((q * 20) + p).toNat w)) := by
  refine qM.intro okX4_addSignature (Nat.le_of_ble_eq_true rfl) ?_
  refine j_aload_n rfl rfl ?_
  refine j_getR (q := 11) rfl f_X4_24 rfl (hS.lt (by decide)) (hS.k (by decide) (by decide)) (hS.r (by decide)) ?_
  refine j_iload_n rfl rfl ?_
  refine j_bipush rfl (by decide) ?_
  refine j_imul rfl ?_
  refine j_iload_n rfl rfl ?_
  refine j_iadd rfl ?_
  refine j_iload_n rfl rfl ?_
  refine j_iast (n := 240) rfl (hS.lt (by decide)) (hS.k (by decide) (by decide)) (hS.n (by decide) (by decide)) (by omega) (by omega) (by first | decide | omega) ?_
  refine j_iconst rfl ?_
  refine j_istore rfl (by decide) ?_
  refine j_iconst rfl ?_
  refine j_istore rfl (by decide) ?_
  refine j_loc (ls' := [(0, vR 6), (1, vI q), (2, vI p), (3, vI w), (4, vI (snC (si m 11 ((q * 20) + p).toNat w) p (0 : Int).toNat)), (5, vI 0)]) rfl ?_
  refine lp_addSig (m := (si m 11 ((q * 20) + p).toNat w)) hS hI2 hp ?_ 12 0 (by decide) (by decide)
  refine j_iload rfl rfl ?_
  refine j_iret rfl rfl ?_ rfl (Nat.le_refl _)
  exact ⟨rfl, rfl⟩


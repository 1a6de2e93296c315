theorem RBn (d : Nat) : RB ({ frames := d, cells := 0, slots := 0, locals := 60 * d } : Room) d := ⟨Nat.le_refl _, Nat.le_refl _⟩
/-- holds() of the reference -/
def holR (m : AM) (k p : Int) : Int × AM := if (0 ≤ k ∧ k ≤ 1) ∧ (0 ≤ p ∧ p < mi m 86 70) then (if (hoL k 20 p m).1 = 0 then 0 else 1, (hoL k 20 p m).2) else (-1, m)

set_option maxRecDepth 20000 in
theorem ct_X12_holds {G : QW} {m : AM} {k p : Int} (h : RA m) (hk1 : -2147483648 ≤ k) (hk2 : k < 2147483648) (hp1 : -2147483648 ≤ p) (hp2 : p < 2147483648) : qM G mX12_holds 28 0 0 [vR 86, vI k, vI p] m (fun r m' => r = some (vI (holR m k p).1) ∧ SameP (holR m k p).2 m') := by
  refine qM.intro okX12_holds (Nat.le_of_ble_eq_true rfl) ?_
  have hRB := RBn 28
  have hpp := h.1.1.i.s 86 70 0 20 (by decide)
  refine j_iload_n rfl rfl ?_
  refine j_callS (As := [_]) rfl okX12_isMachine c_X12_399 (ct_X12_isMachine (by omega) (by omega)) rfl rfl (Nat.le_of_ble_eq_true rfl) (RB.call hRB (by omega) (by decide)) ⟨Nat.le_refl _, Nat.le_refl _⟩ ?_
  rintro vq mq ⟨e1, e2⟩
  rw [e1, e2]
  clear e1 e2
  simp only [Option.toList_some, Option.toList_none, List.cons_append, List.nil_append]
  refine j_bif_eq (tgt := 32) rfl (by decide) (fun hb4_1 => ?_) (fun hb4_1 => ?_)
  · skip
    refine j_iconst rfl ?_
    refine j_iret rfl rfl ?_ rfl (Nat.le_refl _)
    exact ⟨by unfold holR; rw [if_neg (by omega)], by unfold holR; rw [if_neg (by omega)]; exact SameP.rf m⟩
  · skip
    refine j_aload_n rfl rfl ?_
    refine j_iload_n rfl rfl ?_
    refine j_callV (ci := 12) rfl okX12_isPaper c_X12_461 (ct_X12_isPaper h.1.1.s h.1.1.i (by omega) (by omega)) rfl rfl (h.1.1.s.lt (by decide)) (h.1.1.s.k (by decide) (by decide)) (by decide) rfl (Nat.le_of_ble_eq_true rfl) (RB.call hRB (by omega) (by decide)) ⟨Nat.le_refl _, Nat.le_refl _⟩ ?_
    rintro vq mq ⟨e1, e2⟩
    rw [e1, e2]
    clear e1 e2
    simp only [Option.toList_some, Option.toList_none, List.cons_append, List.nil_append]
    have w1 := h.1.1.i.s 86 70 (0) 20 (by decide)
    refine j_bif_eq (tgt := 32) rfl (by decide) (fun hb12_1 => ?_) (fun hb12_1 => ?_)
    · skip
      refine j_iconst rfl ?_
      refine j_iret rfl rfl ?_ rfl (Nat.le_refl _)
      exact ⟨by unfold holR; rw [if_neg (by omega)], by unfold holR; rw [if_neg (by omega)]; exact SameP.rf m⟩
    · skip
      refine j_aload_n rfl rfl ?_
      refine j_iload_n rfl rfl ?_
      refine j_iload_n rfl rfl ?_
      refine j_callV (ci := 12) rfl okX12_holdsFor c_X12_464 (ct_X12_holdsForL (by omega) (by omega) 20 _ _ h (by omega) (by omega) (by omega)) rfl rfl (h.1.1.s.lt (by decide)) (h.1.1.s.k (by decide) (by decide)) (by decide) rfl (Nat.le_of_ble_eq_true rfl) (RB.call hRB (by omega) (by decide)) ⟨Nat.le_refl _, Nat.le_refl _⟩ ?_
      rintro vq M ⟨e1, hs⟩
      rw [e1]
      clear e1
      simp only [Option.toList_some, Option.toList_none, List.cons_append, List.nil_append]
      have hk := (hoL_keep k 20 p m h (by omega) (by omega)).2.2
      refine j_if_eq (tgt := 28) rfl (by decide) (by omega) (by omega) (fun hb21_1 => ?_) (fun hb21_1 => ?_)
      · skip
        refine j_iconst rfl ?_
        refine j_goto (tgt := 33) rfl (by decide) ?_
        refine j_iret rfl rfl ?_ rfl (Nat.le_refl _)
        exact ⟨by unfold holR; rw [if_pos (by omega)]; dsimp only; first | (rw [if_pos (by omega)]; done) | (rw [if_neg (by omega)]; done), by unfold holR; rw [if_pos (by omega)]; exact hs⟩
      · skip
        refine j_iconst rfl ?_
        refine j_goto (tgt := 33) rfl (by decide) ?_
        refine j_iret rfl rfl ?_ rfl (Nat.le_refl _)
        exact ⟨by unfold holR; rw [if_pos (by omega)]; dsimp only; first | (rw [if_pos (by omega)]; done) | (rw [if_neg (by omega)]; done), by unfold holR; rw [if_pos (by omega)]; exact hs⟩

/-- the papers from p on that don't hold -/
def bdL (k : Int) : Nat → Int → Int → AM → Int × AM
  | 0, _, b, N => (b, N)
  | x + 1, p, b, N => bdL k x (p + 1) (if (hoL k 20 p N).1 = 0 then z_ior b (z_ishl 1 p) else b) (hoL k 20 p N).2
def biI (m : AM) (bad p : Int) : Nat → Int → Int → Int
  | 0, _, s => s
  | x + 1, o, s => biI m bad p x (o + 1) (if mi m 137 ((12 * p) + o).toNat > 0 ∧ z_iand (waX m (mi m 137 ((12 * p) + o).toNat)) bad = 0 then z_ior s (z_ishl 1 o) else s)
def biO (m : AM) (bad : Int) : Nat → Int → Int → Int
  | 0, _, s => s
  | x + 1, p, s => biO m bad x (p + 1) (if z_iand (z_ishr bad p) 1 = 0 then s else biI m bad p 12 0 s)
def blE (m : AM) (k : Int) : Int × AM := bdL k (mi m 86 70).toNat 0 0 m
/-- blind() of the reference -/
def bliR (m : AM) (k : Int) : Int × AM := if 0 ≤ k ∧ k ≤ 1 then (biO (blE m k).2 (blE m k).1 (mi m 86 70).toNat 0 0, (blE m k).2) else (-1, m)
theorem biI_same {m M : AM} (h : SameP m M) (bad p : Int) : biI M bad p = biI m bad p := by
  have e : ∀ s, waX M s = waX m s := by
    obtain ⟨L, rfl⟩ := h.ex
    have g : ∀ (p : Nat) (all : Int), waL (m.1, L, m.2.2) p all = waL m p all := by
      intro p
      induction p with
      | zero => intro all; rfl
      | succ p ih => intro all; exact ih _
    exact fun s => g _ _
  funext x
  induction x with
  | zero => rfl
  | succ x ih =>
    funext o s
    simp only [biI, ih, e, h.mi 137]
theorem biO_same {m M : AM} (h : SameP m M) (bad : Int) : ∀ (x : Nat) (p s : Int), biO M bad x p s = biO m bad x p s := by
  intro x
  induction x with
  | zero => intro p s; rfl
  | succ x ih => intro p s; simp only [biO, ih, biI_same h]
theorem biI_rng (m : AM) (bad p : Int) : ∀ (x : Nat) (o s : Int), (-2147483648 ≤ s ∧ s < 2147483648) → -2147483648 ≤ biI m bad p x o s ∧ biI m bad p x o s < 2147483648 := by
  intro x
  induction x with
  | zero => intro o s h; exact h
  | succ x ih =>
    intro o s h
    refine ih _ _ ?_
    split
    · exact z_ior_rng _ _
    · exact h

set_option maxRecDepth 20000 in
set_option maxHeartbeats 4000000 in
theorem lp_blind_71 {G : QW} {m : AM} {k bad p E : Int} {Rp : Option Vl → AM → Prop} (hS : St m) (hI : IM m) (hp0 : 0 ≤ p) (hp9 : p ≤ 19) (hbr : -2147483648 ≤ bad ∧ bad < 2147483648) (hexit : qJ G mX12_blind { frames := 29, cells := 0, slots := 0, locals := 60 * 29 } (qF G Rp 0 0) 129 [(0, vR 86), (1, vI k), (2, vI bad), (3, vI E), (4, vI p)] [] m 0 0) : ∀ (x : Nat) (o s : Int), o + x = 12 → 0 ≤ o → (-2147483648 ≤ s ∧ s < 2147483648) → biI m bad p x o s = E → qJ G mX12_blind { frames := 29, cells := 0, slots := 0, locals := 60 * 29 } (qF G Rp 0 0) 71 [(0, vR 86), (1, vI k), (2, vI bad), (3, vI s), (4, vI p), (5, vI o)] [] m 0 0 := by
  have hRB := RBn 29
  intro x
  induction x with
  | zero =>
    intro o s hx ho0 hsr hE
    refine j_iload rfl rfl ?_
    refine j_bipush rfl (by decide) ?_
    refine j_icmp_ge (tgt := 129) rfl (by decide) (by omega) (by omega) (by omega) (by omega) (fun hb75_1 => ?_) (fun hb75_1 => ?_)
    · skip
      have hE : s = E := hE
      subst hE
      refine j_loc (ls' := [(0, vR 86), (1, vI k), (2, vI bad), (3, vI s), (4, vI p)]) rfl ?_
      exact hexit
    · skip
      exfalso; omega
  | succ x ih =>
    intro o s hx ho0 hsr hE
    simp only [biI] at hE
    refine j_iload rfl rfl ?_
    refine j_bipush rfl (by decide) ?_
    refine j_icmp_ge (tgt := 129) rfl (by decide) (by omega) (by omega) (by omega) (by omega) (fun hb75_1 => ?_) (fun hb75_1 => ?_)
    · skip
      exfalso; omega
    · skip
      refine j_aload_n rfl rfl ?_
      refine j_getR (q := 137) rfl f_X12_163 rfl (hS.lt (by decide)) (hS.k (by decide) (by decide)) (hS.r (by decide)) ?_
      refine j_bipush rfl (by decide) ?_
      refine j_iload rfl rfl ?_
      refine j_imul rfl ?_
      refine j_iload rfl rfl ?_
      refine j_iadd rfl ?_
      refine j_iald (n := 240) rfl (hS.lt (by decide)) (hS.k (by decide) (by decide)) (hS.n (by decide) (by decide)) (by omega) (by omega) (by decide) ?_
      have u90_1 := mi_rng m 137 ((12 * p) + o).toNat
      refine j_if_le (tgt := 123) rfl (by decide) (by omega) (by omega) (fun hb91_1 => ?_) (fun hb91_1 => ?_)
      · skip
        refine j_iinc rfl rfl (by decide) ?_
        refine j_goto (tgt := 71) rfl (by decide) ?_
        have hu : s = (if mi m 137 ((12 * p) + o).toNat > 0 ∧ z_iand (waX m (mi m 137 ((12 * p) + o).toNat)) bad = 0 then z_ior s (z_ishl 1 o) else s) := by first | (rw [if_pos (by omega)]; done) | (rw [if_neg (by omega)]; done)
        refine j_loc (ls' := [(0, vR 86), (1, vI k), (2, vI bad), (3, vI (if mi m 137 ((12 * p) + o).toNat > 0 ∧ z_iand (waX m (mi m 137 ((12 * p) + o).toNat)) bad = 0 then z_ior s (z_ishl 1 o) else s)), (4, vI p), (5, vI (o + 1))]) (by rw [← hu]; rfl) ?_
        exact ih (o + 1) _ (by omega) (by omega) (by split; exact z_ior_rng _ _; exact hsr) hE
      · skip
        refine j_aload_n rfl rfl ?_
        refine j_aload_n rfl rfl ?_
        refine j_getR (q := 137) rfl f_X12_163 rfl (hS.lt (by decide)) (hS.k (by decide) (by decide)) (hS.r (by decide)) ?_
        refine j_bipush rfl (by decide) ?_
        refine j_iload rfl rfl ?_
        refine j_imul rfl ?_
        refine j_iload rfl rfl ?_
        refine j_iadd rfl ?_
        refine j_iald (n := 240) rfl (hS.lt (by decide)) (hS.k (by decide) (by decide)) (hS.n (by decide) (by decide)) (by omega) (by omega) (by decide) ?_
        have u107_1 := mi_rng m 137 ((12 * p) + o).toNat
        refine j_callV (ci := 12) rfl okX12_withAll c_X12_475 (ct_X12_withAll hS hI (by omega) (by omega)) rfl rfl (hS.lt (by decide)) (hS.k (by decide) (by decide)) (by decide) rfl (Nat.le_of_ble_eq_true rfl) (RB.call hRB (by omega) (by decide)) ⟨Nat.le_refl _, Nat.le_refl _⟩ ?_
        rintro vq mq ⟨e1, e2⟩
        rw [e1, e2]
        clear e1 e2
        simp only [Option.toList_some, Option.toList_none, List.cons_append, List.nil_append]
        have wr33 := waX_rng m (mi m 137 ((12 * p) + o).toNat)
        refine j_iload_n rfl rfl ?_
        refine j_iand rfl ?_
        have z112_1 := z_iand_rng (waX m (mi m 137 ((12 * p) + o).toNat)) bad
        refine j_if_ne (tgt := 123) rfl (by decide) (by omega) (by omega) (fun hb113_1 => ?_) (fun hb113_1 => ?_)
        · skip
          refine j_iinc rfl rfl (by decide) ?_
          refine j_goto (tgt := 71) rfl (by decide) ?_
          have hu : s = (if mi m 137 ((12 * p) + o).toNat > 0 ∧ z_iand (waX m (mi m 137 ((12 * p) + o).toNat)) bad = 0 then z_ior s (z_ishl 1 o) else s) := by first | (rw [if_pos (by omega)]; done) | (rw [if_neg (by omega)]; done)
          refine j_loc (ls' := [(0, vR 86), (1, vI k), (2, vI bad), (3, vI (if mi m 137 ((12 * p) + o).toNat > 0 ∧ z_iand (waX m (mi m 137 ((12 * p) + o).toNat)) bad = 0 then z_ior s (z_ishl 1 o) else s)), (4, vI p), (5, vI (o + 1))]) (by rw [← hu]; rfl) ?_
          exact ih (o + 1) _ (by omega) (by omega) (by split; exact z_ior_rng _ _; exact hsr) hE
        · skip
          refine j_iload_n rfl rfl ?_
          refine j_iconst rfl ?_
          refine j_iload rfl rfl ?_
          refine j_ishl rfl ?_
          have z120_1 := z_ishl_rng 1 o
          refine j_ior rfl ?_
          have z121_1 := z_ior_rng s (z_ishl 1 o)
          refine j_istore_n rfl (by decide) ?_
          refine j_iinc rfl rfl (by decide) ?_
          refine j_goto (tgt := 71) rfl (by decide) ?_
          have hu : z_ior s (z_ishl 1 o) = (if mi m 137 ((12 * p) + o).toNat > 0 ∧ z_iand (waX m (mi m 137 ((12 * p) + o).toNat)) bad = 0 then z_ior s (z_ishl 1 o) else s) := by first | (rw [if_pos (by omega)]; done) | (rw [if_neg (by omega)]; done)
          refine j_loc (ls' := [(0, vR 86), (1, vI k), (2, vI bad), (3, vI (if mi m 137 ((12 * p) + o).toNat > 0 ∧ z_iand (waX m (mi m 137 ((12 * p) + o).toNat)) bad = 0 then z_ior s (z_ishl 1 o) else s)), (4, vI p), (5, vI (o + 1))]) (by rw [← hu]; rfl) ?_
          exact ih (o + 1) _ (by omega) (by omega) (by split; exact z_ior_rng _ _; exact hsr) hE

set_option maxRecDepth 20000 in
set_option maxHeartbeats 4000000 in
theorem lp_blind_47 {G : QW} {m : AM} {k bad E : Int} {Rp : Option Vl → AM → Prop} (hS : St m) (hI : IM m) (hbr : -2147483648 ≤ bad ∧ bad < 2147483648) (hfin : Rp (some (vI E)) m) : ∀ (x : Nat) (p s : Int), p + x = mi m 86 70 → 0 ≤ p → (-2147483648 ≤ s ∧ s < 2147483648) → biO m bad x p s = E → qJ G mX12_blind { frames := 29, cells := 0, slots := 0, locals := 60 * 29 } (qF G Rp 0 0) 47 [(0, vR 86), (1, vI k), (2, vI bad), (3, vI s), (4, vI p)] [] m 0 0 := by
  have hRB := RBn 29
  have hpp := hI.s 86 70 0 20 (by decide)
  intro x
  induction x with
  | zero =>
    intro p s hx hp0 hsr hE
    refine j_iload rfl rfl ?_
    refine j_aload_n rfl rfl ?_
    refine j_getI rfl f_X12_458 rfl (hS.lt (by decide)) (hS.k (by decide) (by decide)) ?_
    have u50_1 := hI.s 86 70 (0) 20 (by decide)
    refine j_icmp_ge (tgt := 135) rfl (by decide) (by omega) (by omega) (by omega) (by omega) (fun hb53_1 => ?_) (fun hb53_1 => ?_)
    · skip
      refine j_iload_n rfl rfl ?_
      refine j_iret rfl rfl ?_ rfl (Nat.le_refl _)
      have hE : s = E := hE
      subst hE
      exact hfin
    · skip
      exfalso; omega
  | succ x ih =>
    intro p s hx hp0 hsr hE
    simp only [biO] at hE
    refine j_iload rfl rfl ?_
    refine j_aload_n rfl rfl ?_
    refine j_getI rfl f_X12_458 rfl (hS.lt (by decide)) (hS.k (by decide) (by decide)) ?_
    have u50_1 := hI.s 86 70 (0) 20 (by decide)
    refine j_icmp_ge (tgt := 135) rfl (by decide) (by omega) (by omega) (by omega) (by omega) (fun hb53_1 => ?_) (fun hb53_1 => ?_)
    · skip
      exfalso; omega
    · skip
      refine j_iload_n rfl rfl ?_
      refine j_iload rfl rfl ?_
      refine j_ishr rfl ?_
      have z59_1 := z_ishr_rng bad p
      refine j_iconst rfl ?_
      refine j_iand rfl ?_
      have z61_1 := z_iand_rng (z_ishr bad p) 1
      refine j_if_ne (tgt := 68) rfl (by decide) (by omega) (by omega) (fun hb62_1 => ?_) (fun hb62_1 => ?_)
      · skip
        refine j_iconst rfl ?_
        refine j_istore rfl (by decide) ?_
        rw [if_neg (by omega)] at hE
        refine j_loc (ls' := [(0, vR 86), (1, vI k), (2, vI bad), (3, vI s), (4, vI p), (5, vI 0)]) rfl ?_
        refine lp_blind_71 hS hI hp0 (by omega) hbr ?_ 12 0 s (by decide) (by decide) hsr rfl
        have hbi := biI_rng m bad p 12 0 s hsr
        refine j_iinc rfl rfl (by decide) ?_
        refine j_goto (tgt := 47) rfl (by decide) ?_
        refine j_loc (ls' := [(0, vR 86), (1, vI k), (2, vI bad), (3, vI (biI m bad p 12 0 s)), (4, vI (p + 1))]) rfl ?_
        exact ih (p + 1) _ (by omega) (by omega) hbi hE
      · skip
        refine j_goto (tgt := 129) rfl (by decide) ?_
        refine j_iinc rfl rfl (by decide) ?_
        refine j_goto (tgt := 47) rfl (by decide) ?_
        refine j_loc (ls' := [(0, vR 86), (1, vI k), (2, vI bad), (3, vI s), (4, vI (p + 1))]) rfl ?_
        rw [if_pos (by omega)] at hE
        exact ih (p + 1) s (by omega) (by omega) hsr hE

set_option maxRecDepth 20000 in
set_option maxHeartbeats 4000000 in
theorem lp_blind_13 {G : QW} {m : AM} {k : Int} {E : Int × AM} {Rp : Option Vl → AM → Prop} (hk0 : 0 ≤ k) (hk1 : k ≤ 1) (hpp : 0 ≤ mi m 86 70 ∧ mi m 86 70 ≤ 20) (hexit : ∀ M, RA E.2 → FQ m E.2 → SameP E.2 M → (-2147483648 ≤ E.1 ∧ E.1 < 2147483648) → qJ G mX12_blind { frames := 29, cells := 0, slots := 0, locals := 60 * 29 } (qF G Rp 0 0) 42 [(0, vR 86), (1, vI k), (2, vI E.1)] [] M 0 0) : ∀ (x : Nat) (p b : Int) (N M : AM), p + x = mi m 86 70 → 0 ≤ p → (-2147483648 ≤ b ∧ b < 2147483648) → RA N → FQ m N → SameP N M → bdL k x p b N = E → qJ G mX12_blind { frames := 29, cells := 0, slots := 0, locals := 60 * 29 } (qF G Rp 0 0) 13 [(0, vR 86), (1, vI k), (2, vI b), (3, vI p)] [] M 0 0 := by
  have hRB := RBn 29
  intro x
  induction x with
  | zero =>
    intro p b N M hx hp0 hbr hN hf hs hE
    have hM := hN.of hs
    have e70 : mi M 86 70 = mi m 86 70 := (hs.mi 86 70).trans (hf.cell (by decide) (by decide) (by decide))
    refine j_iload_n rfl rfl ?_
    refine j_aload_n rfl rfl ?_
    refine j_getI rfl f_X12_458 rfl (hM.1.1.s.lt (by decide)) (hM.1.1.s.k (by decide) (by decide)) ?_
    have u15_1 := hM.1.1.i.s 86 70 (0) 20 (by decide)
    refine j_icmp_ge (tgt := 42) rfl (by decide) (by omega) (by omega) (by omega) (by omega) (fun hb18_1 => ?_) (fun hb18_1 => ?_)
    · skip
      have hE : (b, N) = E := hE
      subst hE
      refine j_loc (ls' := [(0, vR 86), (1, vI k), (2, vI b)]) rfl ?_
      exact hexit M hN hf hs hbr
    · skip
      exfalso; omega
  | succ x ih =>
    intro p b N M hx hp0 hbr hN hf hs hE
    have hM := hN.of hs
    have e70 : mi M 86 70 = mi m 86 70 := (hs.mi 86 70).trans (hf.cell (by decide) (by decide) (by decide))
    have e70N : mi N 86 70 = mi m 86 70 := hf.cell (by decide) (by decide) (by decide)
    simp only [bdL] at hE
    refine j_iload_n rfl rfl ?_
    refine j_aload_n rfl rfl ?_
    refine j_getI rfl f_X12_458 rfl (hM.1.1.s.lt (by decide)) (hM.1.1.s.k (by decide) (by decide)) ?_
    have u15_1 := hM.1.1.i.s 86 70 (0) 20 (by decide)
    refine j_icmp_ge (tgt := 42) rfl (by decide) (by omega) (by omega) (by omega) (by omega) (fun hb18_1 => ?_) (fun hb18_1 => ?_)
    · skip
      exfalso; omega
    · skip
      refine j_aload_n rfl rfl ?_
      refine j_iload_n rfl rfl ?_
      refine j_iload_n rfl rfl ?_
      refine j_callV (ci := 12) rfl okX12_holdsFor c_X12_464 (ct_X12_holdsForL hk0 hk1 20 _ _ hM (by omega) (by omega) (by omega)) rfl rfl (hM.1.1.s.lt (by decide)) (hM.1.1.s.k (by decide) (by decide)) (by decide) rfl (Nat.le_of_ble_eq_true rfl) (RB.call hRB (by omega) (by decide)) ⟨Nat.le_refl _, Nat.le_refl _⟩ ?_
      rintro vq M2 ⟨e1, hs2⟩
      rw [e1]
      clear e1
      have g := hoL_same k 20 p _ _ hs
      rw [g.1]
      have hs2 := g.2.trans hs2
      simp only [Option.toList_some, Option.toList_none, List.cons_append, List.nil_append]
      have hk := hoL_keep k 20 p N hN (by omega) (by omega)
      have hkr := hk.2.2
      refine j_if_ne (tgt := 36) rfl (by decide) (by omega) (by omega) (fun hb27_1 => ?_) (fun hb27_1 => ?_)
      · skip
        refine j_iinc rfl rfl (by decide) ?_
        refine j_goto (tgt := 13) rfl (by decide) ?_
        have hu : b = (if (hoL k 20 p N).1 = 0 then z_ior b (z_ishl 1 p) else b) := by first | (rw [if_pos (by omega)]; done) | (rw [if_neg (by omega)]; done)
        refine j_loc (ls' := [(0, vR 86), (1, vI k), (2, vI (if (hoL k 20 p N).1 = 0 then z_ior b (z_ishl 1 p) else b)), (3, vI (p + 1))]) (by rw [← hu]; rfl) ?_
        exact ih (p + 1) (if (hoL k 20 p N).1 = 0 then z_ior b (z_ishl 1 p) else b) _ M2 (by omega) (by omega) (by split <;> first | exact z_ior_rng _ _ | exact hbr) hk.1 (hf.trans hk.2.1) hs2 hE
      · skip
        refine j_iload_n rfl rfl ?_
        refine j_iconst rfl ?_
        refine j_iload_n rfl rfl ?_
        refine j_ishl rfl ?_
        have z33_1 := z_ishl_rng 1 p
        refine j_ior rfl ?_
        have z34_1 := z_ior_rng b (z_ishl 1 p)
        refine j_istore_n rfl (by decide) ?_
        refine j_iinc rfl rfl (by decide) ?_
        refine j_goto (tgt := 13) rfl (by decide) ?_
        have hu : z_ior b (z_ishl 1 p) = (if (hoL k 20 p N).1 = 0 then z_ior b (z_ishl 1 p) else b) := by first | (rw [if_pos (by omega)]; done) | (rw [if_neg (by omega)]; done)
        refine j_loc (ls' := [(0, vR 86), (1, vI k), (2, vI (if (hoL k 20 p N).1 = 0 then z_ior b (z_ishl 1 p) else b)), (3, vI (p + 1))]) (by rw [← hu]; rfl) ?_
        exact ih (p + 1) (if (hoL k 20 p N).1 = 0 then z_ior b (z_ishl 1 p) else b) _ M2 (by omega) (by omega) (by split <;> first | exact z_ior_rng _ _ | exact hbr) hk.1 (hf.trans hk.2.1) hs2 hE

set_option maxRecDepth 20000 in
theorem ct_X12_blind {G : QW} {m : AM} {k : Int} (h : RA m) (hk1 : -2147483648 ≤ k) (hk2 : k < 2147483648) : qM G mX12_blind 29 0 0 [vR 86, vI k] m (fun r m' => r = some (vI (bliR m k).1) ∧ SameP (bliR m k).2 m') := by
  refine qM.intro okX12_blind (Nat.le_of_ble_eq_true rfl) ?_
  have hRB := RBn 29
  have hpp := h.1.1.i.s 86 70 0 20 (by decide)
  refine j_iload_n rfl rfl ?_
  refine j_callS (As := [_]) rfl okX12_isMachine c_X12_399 (ct_X12_isMachine (by omega) (by omega)) rfl rfl (Nat.le_of_ble_eq_true rfl) (RB.call hRB (by omega) (by decide)) ⟨Nat.le_refl _, Nat.le_refl _⟩ ?_
  rintro vq mq ⟨e1, e2⟩
  rw [e1, e2]
  clear e1 e2
  simp only [Option.toList_some, Option.toList_none, List.cons_append, List.nil_append]
  refine j_bif_ne (tgt := 9) rfl (by decide) (fun hb4_1 => ?_) (fun hb4_1 => ?_)
  · skip
    refine j_iconst rfl ?_
    refine j_istore_n rfl (by decide) ?_
    refine j_iconst rfl ?_
    refine j_istore_n rfl (by decide) ?_
    refine j_loc (ls' := [(0, vR 86), (1, vI k), (2, vI 0), (3, vI 0)]) rfl ?_
    refine lp_blind_13 (m := m) (E := blE m k) (by omega) (by omega) hpp (fun M hE hf hs hbr => ?_) (mi m 86 70).toNat 0 0 m m (by omega) (Int.le_refl 0) (by decide) h (FQ.rf m) (SameP.rf m) rfl
    have hM := hE.of hs
    have e70 : mi M 86 70 = mi m 86 70 := (hs.mi 86 70).trans (hf.cell (by decide) (by decide) (by decide))
    refine j_iconst rfl ?_
    refine j_istore_n rfl (by decide) ?_
    refine j_iconst rfl ?_
    refine j_istore rfl (by decide) ?_
    refine j_loc (ls' := [(0, vR 86), (1, vI k), (2, vI (blE m k).1), (3, vI 0), (4, vI 0)]) rfl ?_
    refine lp_blind_47 (E := biO (blE m k).2 (blE m k).1 (mi m 86 70).toNat 0 0) hM.1.1.s hM.1.1.i hbr ⟨by unfold bliR; rw [if_pos (by omega)], by unfold bliR; rw [if_pos (by omega)]; exact hs⟩ (mi m 86 70).toNat 0 0 (by omega) (Int.le_refl 0) (by decide) (biO_same hs _ _ _ _)
  · skip
    refine j_iconst rfl ?_
    refine j_iret rfl rfl ?_ rfl (Nat.le_refl _)
    exact ⟨by unfold bliR; rw [if_neg (by omega)], by unfold bliR; rw [if_neg (by omega)]; exact SameP.rf m⟩


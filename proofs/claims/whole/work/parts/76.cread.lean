/-! the class's reader, right or wrong -/
def chP (c : Int → Int) (r : PRes) : Int := match r with
  | .ok s => c s.1
  | .error _ => -1
def pAdv (r : PRes) : PRes := pThen r (fun s => .ok (s.1 + 1, s.2))
def pErr (r : PRes) : PRes := pThen r (fun s => .error s.1)
def pApp (r : PRes) (what : Nat) (v : Int) : PRes := pThen r (fun s => .ok (s.1, s.2 ++ [(what, v)]))
def pNeed (c : Int → Int) (b : Int) (r : PRes) : PRes := pThen r (fun s => if c s.1 = b then .ok (s.1 + 1, s.2) else .error s.1)
def PB (N k : Int) (r : PRes) : Prop := ∀ s, r = .ok s → 0 ≤ s.1 ∧ s.1 ≤ N ∧ (s.2.length : Int) + k ≤ s.1
theorem chP_ok {c : Int → Int} {r : PRes} (h : 0 ≤ chP c r) : ∃ s, r = .ok s ∧ chP c r = c s.1 := by
  cases r with
  | error p => exact absurd h (by show ¬ (0 : Int) ≤ -1; decide)
  | ok s => exact ⟨s, rfl, rfl⟩
theorem pNeed_y {c : Int → Int} {b : Int} {r : PRes} (h : chP c r = b) (h0 : 0 ≤ b) : pNeed c b r = pAdv r := by
  obtain ⟨s, rfl, e⟩ := chP_ok (c := c) (r := r) (by omega)
  show (if c s.1 = b then (.ok (s.1 + 1, s.2) : PRes) else .error s.1) = _
  rw [if_pos (by omega)]
  rfl
theorem pNeed_n {c : Int → Int} {b : Int} {r : PRes} (h : chP c r ≠ b) : pNeed c b r = pErr r := by
  cases r with
  | error p => rfl
  | ok s =>
    show (if c s.1 = b then (.ok (s.1 + 1, s.2) : PRes) else .error s.1) = _
    rw [if_neg (show ¬ c s.1 = b from h)]
    rfl
theorem CS.used {q : Nat} {m : AM} {r : PRes} (h : CS q m r) {N k : Int} (hb : PB N k r) (hN : N ≤ 160) (hk : 0 ≤ k) : 0 ≤ mi m q 5 ∧ mi m q 5 ≤ 160 := by
  cases r with
  | error p => exact h.2.2
  | ok s =>
    have := hb s rfl
    have e : mi m q 5 = s.2.length := h.2.2.1
    omega
theorem CS.advG {q : Nat} {m : AM} {r : PRes} {c : Int → Int} (hq : 62 ≤ q) (h : CS q m r) {N k : Int} (hb : PB N k r) (hN : N ≤ 160) (h0 : 0 ≤ chP c r) : CS q (si m 1 2 (mi m 1 2 + 1)) (pAdv r) := by
  obtain ⟨⟨a, w⟩, rfl, e⟩ := chP_ok h0
  have g := hb _ rfl
  have e2 : mi m 1 2 = a := h.1
  rw [e2]
  exact CS.adv hq h (by omega) (by omega)
theorem PB.adv {N : Int} {r : PRes} {c : Int → Int} (hc : ∀ x, N ≤ x → c x < 0) (h : PB N 0 r) (h0 : 0 ≤ chP c r) : PB N 1 (pAdv r) := by
  obtain ⟨⟨a, w⟩, rfl, e⟩ := chP_ok h0
  have g := h _ rfl
  intro s hs
  have hs2 : (.ok (a + 1, w) : PRes) = .ok s := hs
  simp only [Except.ok.injEq] at hs2
  subst hs2
  have e : 0 ≤ c a := by rw [e] at h0; exact h0
  have := lt_end hc e
  dsimp only at g ⊢
  omega
theorem PB.up {N k j : Int} {r : PRes} (h : PB N k r) (hj : j ≤ k) : PB N j r := fun s hs => by
  have := h s hs
  omega
theorem PB.app {N : Int} {r : PRes} (h : PB N 1 r) (what : Nat) (v : Int) : PB N 0 (pApp r what v) := by
  cases r with
  | error p => intro s hs; exact absurd hs (by simp [pApp, pThen])
  | ok q =>
    intro s hs
    have hs2 : (.ok (q.1, q.2 ++ [(what, v)]) : PRes) = .ok s := hs
    simp only [Except.ok.injEq] at hs2
    subst hs2
    have g := h q rfl
    dsimp only
    rw [List.length_append]
    show _ ∧ _ ∧ ((q.2.length + 1 : Nat) : Int) + 0 ≤ _
    omega
theorem PB.err {N k j : Int} {r : PRes} (_ : PB N k r) : PB N j (pErr r) := by
  cases r with
  | error p => intro s hs; exact absurd hs (by simp [pErr, pThen])
  | ok q => intro s hs; exact absurd hs (by simp [pErr, pThen])
theorem CS.err {q : Nat} {m : AM} {r : PRes} (hq : 62 ≤ q) (h : CS q m r) {N k : Int} (hb : PB N k r) (hN : N ≤ 160) (hk : 0 ≤ k) : CS q (si m 1 3 1) (pErr r) := by
  cases r with
  | error p => exact h.bad2 hq
  | ok s =>
    have := hb s rfl
    exact CS.bad (w := s.2) hq h (by omega)
theorem CS.app {q : Nat} {m : AM} {r : PRes} (hq : 62 ≤ q) (h : CS q m r) {N : Int} (hb : PB N 1 r) (hN : N ≤ 160) (what : Nat) (v : Int) : CS q (apM q m what v) (pApp r what v) := by
  cases r with
  | error p => exact apM_bad hq h _ _
  | ok s =>
    have := hb s rfl
    exact apM_ok hq h (by omega) what v
theorem pGood.pb {c : Int → Int} {N : Int} {f : PSt → PRes} (hf : pGood c N f) {k : Int} {r : PRes} (h : PB N k r) : PB N k (pThen r f) := by
  intro s hs
  obtain ⟨⟨a, w⟩, rfl, e⟩ := pThen_ok hs
  have g := h _ rfl
  dsimp only at g
  obtain ⟨g1, g2, w2, g3, g4, g5⟩ := (hf a w g.1 g.2.1).1 s e
  rw [g3, List.length_append]
  omega
theorem pNeed_pb {c : Int → Int} {N b : Int} (hc : ∀ x, N ≤ x → c x < 0) (hb : 0 ≤ b) {k : Int} {r : PRes} (h : PB N k r) : PB N k (pNeed c b r) := by
  intro s hs
  obtain ⟨⟨a, w⟩, rfl, e⟩ := pThen_ok hs
  have g := h _ rfl
  dsimp only at g e
  split at e
  · next q =>
    have := lt_end (c := c) hc (a := a) (by omega)
    simp only [Except.ok.injEq] at e
    subst e
    dsimp only
    omega
  · simp at e
/-- how a method of the reader that reads f behaves -/
def CtC (G : QW) (md : MD) (d : Nat) (ar : List Vl) (f : (Int → Int) → PSt → PRes) : Prop := ∀ (q : Nat) (m : AM) (r : PRes), CG q m → CS q m r → PB (mi m 1 1) 0 r → qM G md d 0 0 ar m (fun x m' => x = none ∧ FC q m m' ∧ CS q m' (pThen r (f (chC m))))
def vCh (v x : Int) : Prop := (-1 ≤ v ∧ v ≤ 127 ∧ x = v) ∨ (128 ≤ v ∧ v ≤ 255 ∧ x = v - 256)
theorem ct_X6_nextG {G : QW} {q : Nat} {m : AM} {r : PRes} (g : CG q m) (h : CS q m r) (hb : PB (mi m 1 1) 0 r) : qM G mX6_next 0 0 0 [vR 1] m (fun x m' => ∃ v, x = some (vI v) ∧ m' = m ∧ vCh v (chP (chC m) r)) := by
  cases r with
  | error p => exact (ct_X6_nextB g h).mono (fun x m' e => ⟨-1, e.1, e.2, Or.inl ⟨by decide, by decide, rfl⟩⟩)
  | ok s => exact (ct_X6_next (w := s.2) g h (hb s rfl).1).mono (fun x m' e => ⟨_, e.1, e.2, nxC_ch g.2.2.2.2 s.1⟩)

set_option maxRecDepth 20000 in
set_option maxHeartbeats 4000000 in
theorem ct_X6_takes {G : QW} {q : Nat} {m : AM} {r : PRes} (g : CG q m) (h : CS q m r) (hb : PB (mi m 1 1) 0 r) {b : Int} (hb0 : 0 ≤ b ∧ b ≤ 127) : qM G mX6_takes 1 0 0 [vR 1, vI b] m (fun x m' => (chP (chC m) r = b ∧ x = some (vI 1) ∧ FC q m m' ∧ CS q m' (pAdv r)) ∨ (chP (chC m) r ≠ b ∧ x = some (vI 0) ∧ m' = m)) := by
  refine qM.intro okX6_takes (Nat.le_of_ble_eq_true rfl) ?_
  have hq : 62 ≤ q := g.2.1
  have hlen := g.2.2.2.2.1
  refine j_aload_n rfl rfl ?_
  refine j_callV (ci := 6) rfl okX6_next c_X6_90 (ct_X6_nextG g h hb) rfl rfl (g.1.lt (by decide)) (g.1.k (by decide) (by decide)) (by decide) rfl (Nat.le_of_ble_eq_true rfl) (by decide) (by decide) ?_
  rintro vq mq ⟨v1, e1, e2, hv2⟩
  rw [e1, e2]
  clear e1 e2
  simp only [Option.toList_some, Option.toList_none, List.cons_append, List.nil_append]
  unfold vCh at hv2
  refine j_iload_n rfl rfl ?_
  refine j_icmp_eq (tgt := 10) rfl (by decide) (by omega) (by omega) (by omega) (by omega) (fun hb5_1 => ?_) (fun hb5_1 => ?_)
  · skip
    refine j_aload_n rfl rfl ?_
    refine j_dup rfl (Nat.ne_of_beq_eq_false rfl) ?_
    refine j_getI rfl f_X6_19 rfl (g.1.lt (by decide)) (g.1.k (by decide) (by decide)) ?_
    have u12_1 := mi_rng m 1 2
    refine j_iconst rfl ?_
    refine j_iadd rfl ?_
    refine j_putI rfl f_X6_19 rfl (g.1.lt (by decide)) (g.1.k (by decide) (by decide)) ?_
    refine j_iconst rfl ?_
    refine j_zret rfl rfl (by decide) ?_ rfl (Nat.le_refl _)
    exact Or.inl ⟨by omega, rfl, (FC.rf q m).one (Or.inr (by omega)) _, CS.advG (c := chC m) hq h hb (by omega) (by omega)⟩
  · skip
    refine j_iconst rfl ?_
    refine j_zret rfl rfl (by decide) ?_ rfl (Nat.le_refl _)
    exact Or.inr ⟨by omega, rfl, rfl⟩

set_option maxRecDepth 20000 in
set_option maxHeartbeats 4000000 in
theorem ct_X6_need {G : QW} {q : Nat} {m : AM} {r : PRes} (g : CG q m) (h : CS q m r) (hb : PB (mi m 1 1) 0 r) {b : Int} (hb0 : 0 ≤ b ∧ b ≤ 127) : qM G mX6_need 2 0 0 [vR 1, vI b] m (fun x m' => x = none ∧ FC q m m' ∧ CS q m' (pNeed (chC m) b r)) := by
  refine qM.intro okX6_need (Nat.le_of_ble_eq_true rfl) ?_
  have hq : 62 ≤ q := g.2.1
  have hlen := g.2.2.2.2.1
  refine j_aload_n rfl rfl ?_
  refine j_iload_n rfl rfl ?_
  refine j_callV (ci := 6) rfl okX6_takes c_X6_42 (ct_X6_takes g h hb (b := b) hb0) rfl rfl (g.1.lt (by decide)) (g.1.k (by decide) (by decide)) (by decide) rfl (Nat.le_of_ble_eq_true rfl) (by decide) (by decide) ?_
  rintro vq M2 ht1
  rcases ht1 with ⟨hy3, e1, hF4, hC5⟩ | ⟨hy3, e1, e2⟩
  · rw [e1]
    simp only [Option.toList_some, Option.toList_none, List.cons_append, List.nil_append]
    have hB6 := PB.adv chC_end hb (c := chC m) (r := r) (by omega)
    refine j_if_ne (tgt := 13) rfl (by decide) (by decide) (by decide) (fun _ => ?_) (fun z => absurd z (by decide))
    refine j_vret rfl rfl ?_ rfl (Nat.le_refl _)
    exact ⟨rfl, hF4, by rw [pNeed_y hy3 (by omega)]; exact hC5⟩
  · rw [e1, e2]
    simp only [Option.toList_some, Option.toList_none, List.cons_append, List.nil_append]
    refine j_if_ne (tgt := 13) rfl (by decide) (by decide) (by decide) (fun z => absurd z (by decide)) (fun _ => ?_)
    refine j_aload_n rfl rfl ?_
    refine j_iconst rfl ?_
    refine j_putZ rfl f_X6_22 (by omega) rfl (g.1.lt (by decide)) (g.1.k (by decide) (by decide)) ?_
    refine j_vret rfl rfl ?_ rfl (Nat.le_refl _)
    exact ⟨rfl, (FC.rf q m).one (Or.inr (by omega)) _, by rw [pNeed_n hy3]; exact CS.err hq h hb (by omega) (by decide)⟩

def opG (lv : Nat) (x : Int) : Nat := if lv = 0 then opO x else if lv = 1 then opA x else if lv = 2 then opC x else if lv = 3 then opS x else opP x

set_option maxRecDepth 20000 in
set_option maxHeartbeats 4000000 in
theorem ct_X6_operatorOf {G : QW} {q : Nat} {m : AM} {r : PRes} (g : CG q m) (h : CS q m r) (hb : PB (mi m 1 1) 0 r) {lv : Nat} (hlv : lv ≤ 4) : qM G mX6_operatorOf 1 0 0 [vR 1, vI (lv : Int)] m (fun x m' => x = some (vI (opG lv (chP (chC m) r))) ∧ m' = m) := by
  refine qM.intro okX6_operatorOf (Nat.le_of_ble_eq_true rfl) ?_
  have hq : 62 ≤ q := g.2.1
  have hlen := g.2.2.2.2.1
  refine j_aload_n rfl rfl ?_
  refine j_callV (ci := 6) rfl okX6_next c_X6_90 (ct_X6_nextG g h hb) rfl rfl (g.1.lt (by decide)) (g.1.k (by decide) (by decide)) (by decide) rfl (Nat.le_of_ble_eq_true rfl) (by decide) (by decide) ?_
  rintro vq mq ⟨v1, e1, e2, hv2⟩
  rw [e1, e2]
  clear e1 e2
  simp only [Option.toList_some, Option.toList_none, List.cons_append, List.nil_append]
  unfold vCh at hv2
  refine j_istore_n rfl (by decide) ?_
  refine j_iload_n rfl rfl ?_
  by_cases hs6_1_0 : (lv : Int) = 0
  · skip
    refine j_tableIn (tgt := 36) rfl (by omega) (by omega) (by omega) (by omega) (by rw [hs6_1_0]; rfl) (by decide) ?_
    refine j_iload_n rfl rfl ?_
    refine j_bipush rfl (by decide) ?_
    refine j_icmp_ne (tgt := 47) rfl (by decide) (by omega) (by omega) (by omega) (by omega) (fun hb39_1 => ?_) (fun hb39_1 => ?_)
    · skip
      refine j_iconst rfl ?_
      refine j_iret rfl rfl ?_ rfl (Nat.le_refl _)
      exact ⟨congrArg some (congrArg vI (by unfold opG opO opA opC opS opP; (repeat' split) <;> omega)), rfl⟩
    · skip
      refine j_bipush rfl (by decide) ?_
      refine j_goto (tgt := 48) rfl (by decide) ?_
      refine j_iret rfl rfl ?_ rfl (Nat.le_refl _)
      exact ⟨congrArg some (congrArg vI (by unfold opG opO opA opC opS opP; (repeat' split) <;> omega)), rfl⟩
  · skip
    by_cases hs6_1_1 : (lv : Int) = 1
    · skip
      refine j_tableIn (tgt := 49) rfl (by omega) (by omega) (by omega) (by omega) (by rw [hs6_1_1]; rfl) (by decide) ?_
      refine j_iload_n rfl rfl ?_
      refine j_bipush rfl (by decide) ?_
      refine j_icmp_ne (tgt := 60) rfl (by decide) (by omega) (by omega) (by omega) (by omega) (fun hb52_1 => ?_) (fun hb52_1 => ?_)
      · skip
        refine j_iconst rfl ?_
        refine j_iret rfl rfl ?_ rfl (Nat.le_refl _)
        exact ⟨congrArg some (congrArg vI (by unfold opG opO opA opC opS opP; (repeat' split) <;> omega)), rfl⟩
      · skip
        refine j_bipush rfl (by decide) ?_
        refine j_goto (tgt := 61) rfl (by decide) ?_
        refine j_iret rfl rfl ?_ rfl (Nat.le_refl _)
        exact ⟨congrArg some (congrArg vI (by unfold opG opO opA opC opS opP; (repeat' split) <;> omega)), rfl⟩
    · skip
      by_cases hs6_1_2 : (lv : Int) = 2
      · skip
        refine j_tableIn (tgt := 62) rfl (by omega) (by omega) (by omega) (by omega) (by rw [hs6_1_2]; rfl) (by decide) ?_
        refine j_iload_n rfl rfl ?_
        refine j_bipush rfl (by decide) ?_
        refine j_icmp_ne (tgt := 73) rfl (by decide) (by omega) (by omega) (by omega) (by omega) (fun hb65_1 => ?_) (fun hb65_1 => ?_)
        · skip
          refine j_iload_n rfl rfl ?_
          refine j_bipush rfl (by decide) ?_
          refine j_icmp_ne (tgt := 84) rfl (by decide) (by omega) (by omega) (by omega) (by omega) (fun hb76_1 => ?_) (fun hb76_1 => ?_)
          · skip
            refine j_iload_n rfl rfl ?_
            refine j_bipush rfl (by decide) ?_
            refine j_icmp_ne (tgt := 95) rfl (by decide) (by omega) (by omega) (by omega) (by omega) (fun hb87_1 => ?_) (fun hb87_1 => ?_)
            · skip
              refine j_iconst rfl ?_
              refine j_iret rfl rfl ?_ rfl (Nat.le_refl _)
              exact ⟨congrArg some (congrArg vI (by unfold opG opO opA opC opS opP; (repeat' split) <;> omega)), rfl⟩
            · skip
              refine j_bipush rfl (by decide) ?_
              refine j_goto (tgt := 96) rfl (by decide) ?_
              refine j_iret rfl rfl ?_ rfl (Nat.le_refl _)
              exact ⟨congrArg some (congrArg vI (by unfold opG opO opA opC opS opP; (repeat' split) <;> omega)), rfl⟩
          · skip
            refine j_bipush rfl (by decide) ?_
            refine j_goto (tgt := 96) rfl (by decide) ?_
            refine j_iret rfl rfl ?_ rfl (Nat.le_refl _)
            exact ⟨congrArg some (congrArg vI (by unfold opG opO opA opC opS opP; (repeat' split) <;> omega)), rfl⟩
        · skip
          refine j_bipush rfl (by decide) ?_
          refine j_goto (tgt := 96) rfl (by decide) ?_
          refine j_iret rfl rfl ?_ rfl (Nat.le_refl _)
          exact ⟨congrArg some (congrArg vI (by unfold opG opO opA opC opS opP; (repeat' split) <;> omega)), rfl⟩
      · skip
        by_cases hs6_1_3 : (lv : Int) = 3
        · skip
          refine j_tableIn (tgt := 97) rfl (by omega) (by omega) (by omega) (by omega) (by rw [hs6_1_3]; rfl) (by decide) ?_
          refine j_iload_n rfl rfl ?_
          refine j_bipush rfl (by decide) ?_
          refine j_icmp_ne (tgt := 108) rfl (by decide) (by omega) (by omega) (by omega) (by omega) (fun hb100_1 => ?_) (fun hb100_1 => ?_)
          · skip
            refine j_iload_n rfl rfl ?_
            refine j_bipush rfl (by decide) ?_
            refine j_icmp_ne (tgt := 119) rfl (by decide) (by omega) (by omega) (by omega) (by omega) (fun hb111_1 => ?_) (fun hb111_1 => ?_)
            · skip
              refine j_iconst rfl ?_
              refine j_iret rfl rfl ?_ rfl (Nat.le_refl _)
              exact ⟨congrArg some (congrArg vI (by unfold opG opO opA opC opS opP; (repeat' split) <;> omega)), rfl⟩
            · skip
              refine j_bipush rfl (by decide) ?_
              refine j_goto (tgt := 120) rfl (by decide) ?_
              refine j_iret rfl rfl ?_ rfl (Nat.le_refl _)
              exact ⟨congrArg some (congrArg vI (by unfold opG opO opA opC opS opP; (repeat' split) <;> omega)), rfl⟩
          · skip
            refine j_bipush rfl (by decide) ?_
            refine j_goto (tgt := 120) rfl (by decide) ?_
            refine j_iret rfl rfl ?_ rfl (Nat.le_refl _)
            exact ⟨congrArg some (congrArg vI (by unfold opG opO opA opC opS opP; (repeat' split) <;> omega)), rfl⟩
        · skip
          refine j_tableOut (tgt := 121) rfl (by omega) (by omega) (by omega) (by decide) ?_
          refine j_iload_n rfl rfl ?_
          refine j_bipush rfl (by decide) ?_
          refine j_icmp_ne (tgt := 132) rfl (by decide) (by omega) (by omega) (by omega) (by omega) (fun hb124_1 => ?_) (fun hb124_1 => ?_)
          · skip
            refine j_iload_n rfl rfl ?_
            refine j_bipush rfl (by decide) ?_
            refine j_icmp_ne (tgt := 143) rfl (by decide) (by omega) (by omega) (by omega) (by omega) (fun hb135_1 => ?_) (fun hb135_1 => ?_)
            · skip
              refine j_iload_n rfl rfl ?_
              refine j_bipush rfl (by decide) ?_
              refine j_icmp_ne (tgt := 154) rfl (by decide) (by omega) (by omega) (by omega) (by omega) (fun hb146_1 => ?_) (fun hb146_1 => ?_)
              · skip
                refine j_iconst rfl ?_
                refine j_iret rfl rfl ?_ rfl (Nat.le_refl _)
                exact ⟨congrArg some (congrArg vI (by unfold opG opO opA opC opS opP; (repeat' split) <;> omega)), rfl⟩
              · skip
                refine j_bipush rfl (by decide) ?_
                refine j_goto (tgt := 155) rfl (by decide) ?_
                refine j_iret rfl rfl ?_ rfl (Nat.le_refl _)
                exact ⟨congrArg some (congrArg vI (by unfold opG opO opA opC opS opP; (repeat' split) <;> omega)), rfl⟩
            · skip
              refine j_bipush rfl (by decide) ?_
              refine j_goto (tgt := 155) rfl (by decide) ?_
              refine j_iret rfl rfl ?_ rfl (Nat.le_refl _)
              exact ⟨congrArg some (congrArg vI (by unfold opG opO opA opC opS opP; (repeat' split) <;> omega)), rfl⟩
          · skip
            refine j_bipush rfl (by decide) ?_
            refine j_goto (tgt := 155) rfl (by decide) ?_
            refine j_iret rfl rfl ?_ rfl (Nat.le_refl _)
            exact ⟨congrArg some (congrArg vI (by unfold opG opO opA opC opS opP; (repeat' split) <;> omega)), rfl⟩

set_option maxRecDepth 20000 in
set_option maxHeartbeats 4000000 in
theorem ct_X6_readDigit {G : QW} {q : Nat} {m : AM} {r : PRes} (g : CG q m) (h : CS q m r) (hb : PB (mi m 1 1) 0 r) {b : Int} (hb0 : 0 ≤ b ∧ b ≤ 10) : qM G mX6_readDigit 1 0 0 [vR 1, vI b] m (fun x m' => (48 ≤ chP (chC m) r ∧ chP (chC m) r < 48 + b ∧ x = some (vI (chP (chC m) r - 48)) ∧ FC q m m' ∧ CS q m' (pAdv r)) ∨ (¬ (48 ≤ chP (chC m) r ∧ chP (chC m) r < 48 + b) ∧ x = some (vI 0) ∧ FC q m m' ∧ CS q m' (pErr r))) := by
  refine qM.intro okX6_readDigit (Nat.le_of_ble_eq_true rfl) ?_
  have hq : 62 ≤ q := g.2.1
  have hlen := g.2.2.2.2.1
  refine j_aload_n rfl rfl ?_
  refine j_callV (ci := 6) rfl okX6_next c_X6_90 (ct_X6_nextG g h hb) rfl rfl (g.1.lt (by decide)) (g.1.k (by decide) (by decide)) (by decide) rfl (Nat.le_of_ble_eq_true rfl) (by decide) (by decide) ?_
  rintro vq mq ⟨v1, e1, e2, hv2⟩
  rw [e1, e2]
  clear e1 e2
  simp only [Option.toList_some, Option.toList_none, List.cons_append, List.nil_append]
  unfold vCh at hv2
  refine j_bipush rfl (by decide) ?_
  refine j_isub rfl ?_
  refine j_istore_n rfl (by decide) ?_
  refine j_iload_n rfl rfl ?_
  refine j_if_lt (tgt := 17) rfl (by decide) (by omega) (by omega) (fun hb9_1 => ?_) (fun hb9_1 => ?_)
  · skip
    refine j_aload_n rfl rfl ?_
    refine j_iconst rfl ?_
    refine j_putZ rfl f_X6_22 (by omega) rfl (g.1.lt (by decide)) (g.1.k (by decide) (by decide)) ?_
    refine j_iconst rfl ?_
    refine j_iret rfl rfl ?_ rfl (Nat.le_refl _)
    exact Or.inr ⟨by omega, rfl, (FC.rf q m).one (Or.inr (by omega)) _, CS.err hq h hb (by omega) (by decide)⟩
  · skip
    refine j_iload_n rfl rfl ?_
    refine j_iload_n rfl rfl ?_
    refine j_icmp_lt (tgt := 24) rfl (by decide) (by omega) (by omega) (by omega) (by omega) (fun hb14_1 => ?_) (fun hb14_1 => ?_)
    · skip
      refine j_aload_n rfl rfl ?_
      refine j_dup rfl (Nat.ne_of_beq_eq_false rfl) ?_
      refine j_getI rfl f_X6_19 rfl (g.1.lt (by decide)) (g.1.k (by decide) (by decide)) ?_
      have u26_1 := mi_rng m 1 2
      refine j_iconst rfl ?_
      refine j_iadd rfl ?_
      refine j_putI rfl f_X6_19 rfl (g.1.lt (by decide)) (g.1.k (by decide) (by decide)) ?_
      refine j_iload_n rfl rfl ?_
      refine j_iret rfl rfl ?_ rfl (Nat.le_refl _)
      exact Or.inl ⟨by omega, by omega, congrArg some (congrArg vI (by omega)), (FC.rf q m).one (Or.inr (by omega)) _, CS.advG (c := chC m) hq h hb (by omega) (by omega)⟩
    · skip
      refine j_aload_n rfl rfl ?_
      refine j_iconst rfl ?_
      refine j_putZ rfl f_X6_22 (by omega) rfl (g.1.lt (by decide)) (g.1.k (by decide) (by decide)) ?_
      refine j_iconst rfl ?_
      refine j_iret rfl rfl ?_ rfl (Nat.le_refl _)
      exact Or.inr ⟨by omega, rfl, (FC.rf q m).one (Or.inr (by omega)) _, CS.err hq h hb (by omega) (by decide)⟩


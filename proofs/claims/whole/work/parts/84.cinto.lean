/-- what reading a whole text leaves as it was -/
def FR2 (q : Nat) (m N : AM) : Prop := N.2 = m.2 ∧ ∀ o j : Nat, ¬ (q ≤ o ∧ o ≤ q + 5) → ¬ (o = 1 ∧ (j = 2 ∨ j = 3)) → N.1 o j = m.1 o j
theorem FR2.rf (q : Nat) (m : AM) : FR2 q m m := ⟨rfl, fun _ _ _ _ => rfl⟩
theorem FR2.trans {q : Nat} {m M N : AM} (h : FR2 q m M) (h2 : FC q M N) : FR2 q m N := ⟨h2.1.trans h.1, fun o j a b => (h2.2 o j (by omega) b).trans (h.2 o j a b)⟩
theorem FR2.fl {q : Nat} {l : Int} {m M N : AM} (h : FR2 q m M) (h2 : FLC q l M N) : FR2 q m N := ⟨h2.1.trans h.1, fun o j a b => (h2.2 o j (by omega) b).trans (h.2 o j a b)⟩
theorem FR2.cell {q : Nat} {m N : AM} (h : FR2 q m N) {o j : Nat} (h1 : ¬ (q ≤ o ∧ o ≤ q + 5)) (h2 : ¬ (o = 1 ∧ (j = 2 ∨ j = 3))) : mi N o j = mi m o j := by
  show (zi (N.1 o j)).toInt = (zi (m.1 o j)).toInt
  rw [h.2 o j h1 h2]
theorem FR2.one {q : Nat} {m N : AM} (h : FR2 q m N) {o k : Nat} (hk : (q ≤ o ∧ o ≤ q + 5) ∨ (o = 1 ∧ (k = 2 ∨ k = 3))) (v : Int) : FR2 q m (si N o k v) := ⟨h.1, fun p j h1 h2 => by
  show (if p = o ∧ j = k then v else N.1 p j) = m.1 p j
  rw [if_neg (by rintro ⟨rfl, rfl⟩; omega)]
  exact h.2 p j h1 h2⟩
theorem FR2.cg {q : Nat} {m N : AM} (h : FR2 q m N) (g : CG q m) : CG q N := by
  obtain ⟨a, b, c, d, e⟩ := g
  refine ⟨a.sub (by rw [h.1]), b, ?_, ?_, ⟨?_, fun j => ?_⟩⟩
  · unfold ObA mz mk mn mr at *
    rw [h.1]
    exact c
  · unfold mr at *
    rw [h.1]
    exact d
  · rw [h.cell (by omega) (by omega)]
    exact e.1
  · rw [h.cell (by omega) (by omega)]
    exact e.2 j
theorem FR2.ch {q : Nat} {m N : AM} (h : FR2 q m N) (hq : 62 ≤ q) : chC N = chC m := by
  funext x
  unfold chC
  rw [h.cell (by omega) (by omega), h.cell (by omega) (by omega)]
def r0 : LRec := (0, 0, 0, 0, 0, 0)
/-- lines that were read -/
def IV (q : Nat) (N : AM) (rs : List LRec) : Prop := (∀ i : Nat, i < rs.length → CRec q i N (rs.getD i r0)) ∧ (∀ i : Nat, i < 32 → bt (mi N q 7) i = decide (i < rs.length ∧ (rs.getD i r0).1 = 1)) ∧ (∀ i : Nat, i < 32 → bt (mi N q 8) i = decide (i < rs.length ∧ (rs.getD i r0).2.2.2.1 = 1))
theorem CRec.of {q : Nat} {i : Int} {N M : AM} {z : LRec} (h : CRec q i N z) (e : ∀ d : Nat, 2 ≤ d → d ≤ 5 → mi M (q + d) i.toNat = mi N (q + d) i.toNat) : CRec q i M z :=
  ⟨(e 2 (by decide) (by decide)).trans h.1, (e 3 (by decide) (by decide)).trans h.2.1, (e 5 (by decide) (by decide)).trans h.2.2.1, (e 4 (by decide) (by decide)).trans h.2.2.2⟩
theorem IV.of {q : Nat} {N M : AM} {rs : List LRec} (h : IV q N rs) (e : ∀ d i : Nat, 2 ≤ d → d ≤ 5 → mi M (q + d) i = mi N (q + d) i) (e7 : mi M q 7 = mi N q 7) (e8 : mi M q 8 = mi N q 8) : IV q M rs :=
  ⟨fun i hi => (h.1 i hi).of (fun d a b => e d _ a b), by rw [e7]; exact h.2.1, by rw [e8]; exact h.2.2⟩
theorem IV.fc {q : Nat} {N M : AM} {rs : List LRec} (h : IV q N rs) (hq : 62 ≤ q) (f : FC q N M) : IV q M rs :=
  h.of (fun d i a b => f.cell (by omega) (by omega)) (f.cell (by omega) (by omega)) (f.cell (by omega) (by omega))
theorem bits_more {x : Int} {rs : List LRec} {z : LRec} {p : LRec → Int} (h : ∀ i : Nat, i < 32 → bt x i = decide (i < rs.length ∧ p (rs.getD i r0) = 1)) (hl : rs.length < 32) : ∀ i : Nat, i < 32 → bt (z_ior x (if p z = 1 then z_ishl 1 (rs.length : Int) else 0)) i = decide (i < (rs ++ [z]).length ∧ p ((rs ++ [z]).getD i r0) = 1) := by
  intro i hi
  rw [bt_or, h i hi, List.length_append, show rs.length + [z].length = rs.length + 1 from rfl]
  have e : bt (if p z = 1 then z_ishl 1 (rs.length : Int) else 0) i = decide (i = rs.length ∧ p z = 1) := by
    by_cases hz : p z = 1
    · rw [if_pos hz, bt_shl hl hi]
      simp [hz]
    · rw [if_neg hz, bt_0]
      simp [hz]
  rw [e]
  by_cases a : i < rs.length
  · rw [show (rs ++ [z]).getD i r0 = rs.getD i r0 by simp [List.getD, List.getElem?_append_left a]]
    have b : ¬ i = rs.length := by omega
    have c : i < rs.length + 1 := by omega
    simp [a, b, c]
  · by_cases b : i = rs.length
    · subst b
      rw [show (rs ++ [z]).getD rs.length r0 = z by simp [List.getD]]
      simp
    · have c : ¬ i < rs.length + 1 := by omega
      simp [a, b, c]
theorem IV.more {q : Nat} {N M : AM} {rs : List LRec} {z : LRec} (h : IV q N rs) (hl : rs.length < 12) (hq : 62 ≤ q) (f : FLC q (rs.length : Int) N M) (hc : CRec q (rs.length : Int) M z) (h7 : mi M q 7 = z_ior (mi N q 7) (if z.1 = 1 then z_ishl 1 (rs.length : Int) else 0)) (h8 : mi M q 8 = z_ior (mi N q 8) (if z.2.2.2.1 = 1 then z_ishl 1 (rs.length : Int) else 0)) : IV q M (rs ++ [z]) := by
  refine ⟨fun i hi => ?_, ?_, ?_⟩
  · rw [List.length_append] at hi
    have hi2 : i < rs.length + 1 := hi
    by_cases b : i = rs.length
    · subst b
      rw [show (rs ++ [z]).getD rs.length r0 = z by simp [List.getD]]
      exact hc
    · have a : i < rs.length := by omega
      rw [show (rs ++ [z]).getD i r0 = rs.getD i r0 by simp [List.getD, List.getElem?_append_left a]]
      exact (h.1 i a).of (fun d u v => f.cell (by omega) (by omega))
  · rw [h7]
    exact bits_more (p := fun z => z.1) h.2.1 (by omega)
  · rw [h8]
    exact bits_more (p := fun z => z.2.2.2.1) h.2.2 (by omega)
/-- how readInto ends -/
def PRC (q : Nat) (m : AM) (R : Except Int (PSt × List LRec)) : Option Vl → AM → Prop := fun x m' => match R with
  | .error p => x = some (vI p) ∧ FR2 q m m' ∧ (mi m' 1 3 = 0 ∨ mi m' 1 3 = 1)
  | .ok z => x = some (vI (-1)) ∧ FR2 q m m' ∧ WC q m' z.1.2 ∧ IV q m' z.2 ∧ mi m' q 6 = z.2.length ∧ (mi m' 1 3 = 0 ∨ mi m' 1 3 = 1)
theorem CS.mono {q : Nat} {N : AM} {s : PSt} (h : CS q N (.ok s)) : WC q N s.2 := h.2.2

set_option maxRecDepth 20000 in
set_option maxHeartbeats 4000000 in
theorem lp_readInto_21 {G : QW} {q : Nat} {m : AM} {R : Except Int (PSt × List LRec)} {Rp : Option Vl → AM → Prop} (g : CG q m) (hxx : ∀ x m', PRC q m R x m' → Rp x m') : ∀ (x : Nat) (l : Int) (N : AM) (a : Int) (w : List (Nat × Int)) (rs : List LRec), FR2 q m N → CS q N (.ok (a, w)) → PB (mi m 1 1) 0 (.ok (a, w)) → IV q N rs → l = (rs.length : Nat) → l + x = 13 → l ≤ 12 → prL (chC m) false (mi m 1 1) x l (a, w) rs = R → qJ G mX6_readInto { frames := 53, cells := 0, slots := 0, locals := 60 * 53 } (qF G Rp 0 0) 21 [(0, vR 1), (1, vR q), (2, vI l)] [] N 0 0 := by
  have hq : 62 ≤ q := g.2.1
  have hlen := g.2.2.2.2.1
  have hRB := RBn 53
  intro x
  induction x with
  | zero => intro l N a w rs _ _ _ _ _ h1 h2 _; exact absurd h1 (by omega)
  | succ x ih =>
    intro l N a w rs hF hC hB hV hl hx hl2 hE
    have hpb := hB _ rfl
    dsimp only at hpb
    have hBN : PB (mi N 1 1) 0 (.ok (a, w)) := by rw [show mi N 1 1 = mi m 1 1 from hF.cell (by omega) (by omega)]; exact hB
    refine j_iload_n rfl rfl ?_
    refine j_bipush rfl (by decide) ?_
    refine j_icmp_ge (tgt := 84) rfl (by decide) (by omega) (by omega) (by omega) (by omega) (fun hb24_1 => ?_) (fun hb24_1 => ?_)
    · skip
      simp only [prL] at hE
      rw [if_pos (by omega)] at hE
      refine j_aload_n rfl rfl ?_
      refine j_getI rfl f_X6_19 rfl ((hF.cg g).1.lt (by decide)) ((hF.cg g).1.k (by decide) (by decide)) ?_
      have u85_1 := mi_rng N 1 2
      refine j_iret rfl rfl ?_ rfl (Nat.le_refl _)
      refine hxx _ _ ?_
      rw [← hE]
      exact ⟨congrArg some (congrArg vI hC.1), hF, Or.inl hC.2.1⟩
    · skip
      refine j_aload_n rfl rfl ?_
      refine j_iload_n rfl rfl ?_
      refine j_callV (ci := 6) rfl okX6_readLine c_X6_35 (ct_X6_readLine (a := a) (w := w) (by omega) (hF.cg g) hC hBN) rfl rfl ((hF.cg g).1.lt (by decide)) ((hF.cg g).1.k (by decide) (by decide)) (by decide) rfl (Nat.le_of_ble_eq_true rfl) (RB.call hRB (by omega) (by decide)) ⟨Nat.le_refl _, Nat.le_refl _⟩ ?_
      rintro vq N1 ⟨e1, hP⟩
      rw [e1]
      clear e1
      simp only [Option.toList_some, Option.toList_none, List.cons_append, List.nil_append]
      rw [hF.ch hq] at hP
      simp only [prL] at hE
      rw [if_neg (by omega)] at hE
      cases hres : pLine (chC m) false (a, w) with
      | error p =>
        rw [hres] at hP hE
        obtain ⟨hf, hc⟩ := hP
        have hF1 := hF.fl hf
        have e2 : mi N1 1 2 = p := hc.1
        have e3 : mi N1 1 3 = 1 := hc.2.1
        refine j_aload_n rfl rfl ?_
        refine j_getI rfl f_X6_22 rfl ((hF1.cg g).1.lt (by decide)) ((hF1.cg g).1.k (by decide) (by decide)) ?_
        have u33_1 := mi_rng N1 1 3
        refine j_if_eq (tgt := 44) rfl (by decide) (by omega) (by omega) (fun hb36_1 => ?_) (fun hb36_1 => ?_)
        · skip
          exfalso; omega
        · skip
          refine j_aload_n rfl rfl ?_
          refine j_getI rfl f_X6_19 rfl ((hF1.cg g).1.lt (by decide)) ((hF1.cg g).1.k (by decide) (by decide)) ?_
          have u40_1 := mi_rng N1 1 2
          refine j_iret rfl rfl ?_ rfl (Nat.le_refl _)
          refine hxx _ _ ?_
          rw [← hE]
          exact ⟨congrArg some (congrArg vI e2), hF1, Or.inr e3⟩
      | ok z =>
        rw [hres] at hP hE
        obtain ⟨hf, hc, hr, h7, h8⟩ := hP
        dsimp only at hE
        have hF1 := hF.fl hf
        have e2 : mi N1 1 2 = z.1.1 := hc.1
        have e3 : mi N1 1 3 = 0 := hc.2.1
        obtain ⟨g1, g2, w1, w2, g3, g4, -⟩ := (pLine_good (c := chC m) (N := mi m 1 1) chC_end false (w := w) (by omega) (by omega)).1 z hres
        have hlz : (z.1.2.length : Int) ≤ z.1.1 := by rw [g3, List.append_assoc, List.length_append]; omega
        have hV1 := hV.more (by omega) hq (by rw [← hl]; exact hf) (by rw [← hl]; exact hr) (by rw [← hl]; exact h7) (by rw [← hl]; exact h8)
        have hB1 : PB (mi m 1 1) 0 (.ok z.1) := fun s e => by
          simp only [Except.ok.injEq] at e
          subst e
          omega
        have elen : mi N1 1 1 = mi m 1 1 := hF1.cell (by omega) (by omega)
        refine j_aload_n rfl rfl ?_
        refine j_getI rfl f_X6_22 rfl ((hF1.cg g).1.lt (by decide)) ((hF1.cg g).1.k (by decide) (by decide)) ?_
        have u33_2 := mi_rng N1 1 3
        refine j_if_eq (tgt := 44) rfl (by decide) (by omega) (by omega) (fun hb36_2 => ?_) (fun hb36_2 => ?_)
        · skip
          refine j_aload_n rfl rfl ?_
          refine j_iload_n rfl rfl ?_
          refine j_iconst rfl ?_
          refine j_iadd rfl ?_
          refine j_putI rfl f_X6_39 rfl (hF1.cg g).2.2.1.1 (hF1.cg g).2.2.1.2.1 ?_
          have hF2 := hF1.one (o := q) (k := 6) (Or.inl (by omega)) (l + 1)
          have hC2 := hc.cell (o := q) (k := 6) (by omega) (by omega) (by omega) (l + 1)
          have hV2 := hV1.of (M := si N1 q 6 (l + 1)) (fun d i a b => mi_si_ne _ _ (by omega)) (mi_si_ne _ _ (by omega)) (mi_si_ne _ _ (by omega))
          have h62 : mi (si N1 q 6 (l + 1)) q 6 = l + 1 := mi_si_same _ _ _ (by omega) (by omega)
          have k2 : mi (si N1 q 6 (l + 1)) 1 2 = z.1.1 := (mi_si_ne _ _ (by omega)).trans e2
          have k1 : mi (si N1 q 6 (l + 1)) 1 1 = mi m 1 1 := (mi_si_ne _ _ (by omega)).trans elen
          generalize si N1 q 6 (l + 1) = N2 at hF2 hC2 hV2 h62 k2 k1 ⊢
          have hll : l + 1 = ((rs ++ [z.2]).length : Nat) := by rw [List.length_append, hl]; rfl
          refine j_aload_n rfl rfl ?_
          refine j_getI rfl f_X6_19 rfl ((hF2.cg g).1.lt (by decide)) ((hF2.cg g).1.k (by decide) (by decide)) ?_
          have u52_1 := mi_rng N2 1 2
          refine j_aload_n rfl rfl ?_
          refine j_getI rfl f_X6_15 rfl ((hF2.cg g).1.lt (by decide)) ((hF2.cg g).1.k (by decide) (by decide)) ?_
          have u56_1 := mi_rng N2 1 1
          refine j_icmp_ne (tgt := 64) rfl (by decide) (by omega) (by omega) (by omega) (by omega) (fun hb59_1 => ?_) (fun hb59_1 => ?_)
          · skip
            refine j_aload_n rfl rfl ?_
            refine j_bipush rfl (by decide) ?_
            refine j_callV (ci := 6) rfl okX6_takes c_X6_42 (ct_X6_takes (hF2.cg g) hC2 (by rw [show mi N2 1 1 = mi m 1 1 from hF2.cell (by omega) (by omega)]; exact hB1) (b := 59) (by decide)) rfl rfl ((hF2.cg g).1.lt (by decide)) ((hF2.cg g).1.k (by decide) (by decide)) (by decide) rfl (Nat.le_of_ble_eq_true rfl) (RB.call hRB (by omega) (by decide)) ⟨Nat.le_refl _, Nat.le_refl _⟩ ?_
            rintro vq M2 ht1
            rw [hF2.ch hq] at ht1
            have hFt : FC q N2 M2 := by
              rcases ht1 with ⟨-, -, f, -⟩ | ⟨-, -, f⟩
              · exact f
              · rw [f]
                exact FC.rf q N2
            rcases ht1 with ⟨hy3, e1, hF4, hC5⟩ | ⟨hy3, e1, e2⟩
            · rw [e1]
              simp only [Option.toList_some, Option.toList_none, List.cons_append, List.nil_append]
              have hB6 := PB.adv chC_end hB1 (c := chC m) (r := (.ok z.1)) (by omega)
              have hF4 := hF2.trans hF4
              refine j_if_ne (tgt := 78) rfl (by decide) (by decide) (by decide) (fun _ => ?_) (fun z => absurd z (by decide))
              refine j_iinc rfl rfl (by decide) ?_
              refine j_goto (tgt := 21) rfl (by decide) ?_
              refine j_loc (ls' := [(0, vR 1), (1, vR q), (2, vI (l + 1))]) rfl ?_
              rw [if_pos (show chC m z.1.1 = 59 from hy3)] at hE
              have hCn : CS q M2 (.ok (z.1.1 + 1, z.1.2)) := hC5
              have hBn : PB (mi m 1 1) 0 (.ok (z.1.1 + 1, z.1.2)) := hB6.up (by decide)
              exact ih (l + 1) M2 (z.1.1 + 1) z.1.2 (rs ++ [z.2]) hF4 hCn hBn (hV2.fc hq hFt) hll (by omega) (by omega) hE
            · rw [e1, e2]
              simp only [Option.toList_some, Option.toList_none, List.cons_append, List.nil_append]
              refine j_if_ne (tgt := 78) rfl (by decide) (by decide) (by decide) (fun z => absurd z (by decide)) (fun _ => ?_)
              refine j_aload_n rfl rfl ?_
              refine j_getI rfl f_X6_19 rfl ((hF2.cg g).1.lt (by decide)) ((hF2.cg g).1.k (by decide) (by decide)) ?_
              have u74_1 := mi_rng N2 1 2
              refine j_iret rfl rfl ?_ rfl (Nat.le_refl _)
              rw [if_neg (show ¬ chC m z.1.1 = 59 from hy3), if_pos (by omega)] at hE
              refine hxx _ _ ?_
              rw [← hE]
              exact ⟨congrArg some (congrArg vI k2), hF2, Or.inl hC2.2.1⟩
          · skip
            refine j_iconst rfl ?_
            refine j_iret rfl rfl ?_ rfl (Nat.le_refl _)
            rw [if_neg (show ¬ chC m z.1.1 = 59 from fun e => by have := lt_end (chC_end (m := m)) (a := z.1.1) (by omega); omega), if_neg (by omega)] at hE
            refine hxx _ _ ?_
            rw [← hE]
            exact ⟨rfl, hF2, hC2.mono, hV2, by rw [h62, hll], Or.inl hC2.2.1⟩
        · skip
          exfalso; omega


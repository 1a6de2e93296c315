theorem opG_le (lv : Nat) (x : Int) : opG lv x ≤ 16 := by unfold opG opO opA opC opS opP; (repeat' split) <;> omega
theorem opG_neg {lv : Nat} {x : Int} (h : x < 0) : opG lv x = 0 := by unfold opG opO opA opC opS opP; (repeat' split) <;> omega
theorem opG_ok {lv : Nat} {c : Int → Int} {r : PRes} (h : opG lv (chP c r) ≠ 0) : 0 ≤ chP c r := Int.not_lt.mp (fun z => h (opG_neg z))
theorem pLoop_0 {lv : Nat} {c : Int → Int} {f : PSt → PRes} {r : PRes} (h : opG lv (chP c r) = 0) (x : Nat) : pThen r (pLoop c (opG lv) f x) = r := by
  cases r with
  | error p => rfl
  | ok s =>
    cases x with
    | zero => rfl
    | succ x =>
      show (if opG lv (c s.1) = 0 then (.ok s : PRes) else _) = _
      rw [if_pos (show opG lv (c s.1) = 0 from h)]
theorem pLoop_1 {lv : Nat} {c : Int → Int} {f : PSt → PRes} {b : Int} {v : List (Nat × Int)} (h : opG lv (c b) ≠ 0) (x : Nat) : pThen (pApp (pThen (pAdv (.ok (b, v))) f) (opG lv (c b)) 0) (pLoop c (opG lv) f x) = pThen (.ok (b, v)) (pLoop c (opG lv) f (x + 1)) := by
  show pThen (pApp (f (b + 1, v)) (opG lv (c b)) 0) (pLoop c (opG lv) f x) = (if opG lv (c b) = 0 then (.ok (b, v) : PRes) else pThen (f (b + 1, v)) (fun q => pLoop c (opG lv) f x (q.1, q.2 ++ [(opG lv (c b), 0)])))
  rw [if_neg h]
  cases f (b + 1, v) <;> rfl
theorem turn_ok {c : Int → Int} {N : Int} {f : PSt → PRes} (hg : pGood c N f) {b : Int} {v : List (Nat × Int)} (h0 : 0 ≤ b + 1) (h1 : b + 1 ≤ N) {op : Nat} {s : PSt} (h : pApp (pThen (pAdv (.ok (b, v))) f) op 0 = .ok s) : b + 1 < s.1 ∧ s.1 ≤ N := by
  obtain ⟨t, ht, e⟩ := pThen_ok h
  have ht2 : f (b + 1, v) = .ok t := ht
  obtain ⟨g1, g2, -⟩ := (hg (b + 1) v h0 h1).1 t ht2
  simp only [Except.ok.injEq] at e
  subst e
  exact ⟨g1, g2⟩
theorem pCmp_0 {c : Int → Int} {f : PSt → PRes} {r : PRes} (h : opG 2 (chP c (pThen r f)) = 0) : pThen r (pCmp c f) = pThen r f := by
  cases r with
  | error p => rfl
  | ok s =>
    show pThen (f s) _ = f s
    have h : opG 2 (chP c (f s)) = 0 := h
    cases hf : f s with
    | error p => rfl
    | ok t =>
      rw [hf] at h
      show (if opC (c t.1) = 0 then (.ok t : PRes) else _) = _
      rw [if_pos (show opC (c t.1) = 0 from h)]
theorem pCmp_1 {c : Int → Int} {f : PSt → PRes} {r : PRes} (h : opG 2 (chP c (pThen r f)) ≠ 0) : pThen r (pCmp c f) = pApp (pThen (pAdv (pThen r f)) f) (opG 2 (chP c (pThen r f))) 0 := by
  cases r with
  | error p => exact absurd (opG_neg (show (-1 : Int) < 0 by decide)) h
  | ok s =>
    have h : opG 2 (chP c (f s)) ≠ 0 := h
    show pThen (f s) _ = pApp (pThen (pAdv (f s)) f) (opG 2 (chP c (f s))) 0
    cases hf : f s with
    | error p => rfl
    | ok t =>
      rw [hf] at h
      show (if opC (c t.1) = 0 then (.ok t : PRes) else _) = pApp (f (t.1 + 1, t.2)) (opC (c t.1)) 0
      rw [if_neg (show ¬ opC (c t.1) = 0 from h)]
      rfl

set_option maxRecDepth 20000 in
set_option maxHeartbeats 4000000 in
theorem lp_readPart_28 {G : QW} {q : Nat} {m : AM} {lv : Nat} {o : Int} {d : Nat} {f : (Int → Int) → PSt → PRes} {T : PRes} (g : CG q m) (hlv : lv ≤ 4) (hl2 : lv ≠ 2) (hd : 1 ≤ d) (hf : CtC G mX6_readPart d [vR 1, vI ((lv : Int) + 1), vI o] f) (hg : pGood (chC m) (mi m 1 1) (f (chC m))) : ∀ (x : Nat) (n : Int) (N : AM) (r : PRes), FC q m N → CS q N r → PB (mi m 1 1) 0 r → 0 ≤ n → n ≤ 160 → (∀ s, r = .ok s → n + 1 ≤ s.1 ∧ mi m 1 1 - s.1 < x) → pThen r (pLoop (chC m) (opG lv) (f (chC m)) x) = T → qJ G mX6_readPart { frames := d + 1, cells := 0, slots := 0, locals := 60 * (d + 1) } (qF G (fun x m' => x = none ∧ FC q m m' ∧ CS q m' T) 0 0) 28 [(0, vR 1), (1, vI (lv : Int)), (2, vI o), (3, vI (opG lv (chP (chC m) r) : Int)), (4, vI n)] [] N 0 0 := by
  have hq : 62 ≤ q := g.2.1
  have hlen := g.2.2.2.2.1
  have hRB := RBn (d + 1)
  intro x
  induction x with
  | zero =>
    intro n N r hF hC hB hn0 hn1 hL hT
    cases r with
    | ok s => exact absurd (hL s rfl) (by have := hB s rfl; omega)
    | error p =>
      have hol := opG_le lv (chP (chC m) (.error p))
      refine j_iload rfl rfl ?_
      refine j_sipush rfl (by decide) ?_
      refine j_icmp_ge (tgt := 88) rfl (by decide) (by omega) (by omega) (by omega) (by omega) (fun hb33_1 => ?_) (fun hb33_1 => ?_)
      · skip
        refine j_vret rfl rfl ?_ rfl (Nat.le_refl _)
        exact ⟨rfl, hF, by rw [← hT]; exact hC⟩
      · skip
        refine j_iload_n rfl rfl ?_
        refine j_if_eq (tgt := 88) rfl (by decide) (by omega) (by omega) (fun hb37_1 => ?_) (fun hb37_1 => ?_)
        · skip
          refine j_vret rfl rfl ?_ rfl (Nat.le_refl _)
          exact ⟨rfl, hF, by rw [← hT]; exact hC⟩
        · skip
          exfalso
          have z0 : opG lv (chP (chC m) (.error p)) = 0 := opG_neg (by show (-1 : Int) < 0; decide)
          omega
  | succ x ih =>
    intro n N r hF hC hB hn0 hn1 hL hT
    have hol := opG_le lv (chP (chC m) r)
    refine j_iload rfl rfl ?_
    refine j_sipush rfl (by decide) ?_
    refine j_icmp_ge (tgt := 88) rfl (by decide) (by omega) (by omega) (by omega) (by omega) (fun hb33_1 => ?_) (fun hb33_1 => ?_)
    · skip
      refine j_vret rfl rfl ?_ rfl (Nat.le_refl _)
      refine ⟨rfl, hF, ?_⟩
      rw [← hT]
      cases r with
      | error p => exact hC
      | ok s => exact absurd (hL s rfl) (by have := (hB s rfl); omega)
    · skip
      refine j_iload_n rfl rfl ?_
      refine j_if_eq (tgt := 88) rfl (by decide) (by omega) (by omega) (fun hb37_1 => ?_) (fun hb37_1 => ?_)
      · skip
        refine j_vret rfl rfl ?_ rfl (Nat.le_refl _)
        refine ⟨rfl, hF, ?_⟩
        rw [← hT, pLoop_0 (by omega)]
        exact hC
      · skip
        have hne : opG lv (chP (chC m) r) ≠ 0 := by omega
        have h0c := opG_ok hne
        obtain ⟨⟨b, v⟩, rfl, ebv⟩ := chP_ok h0c
        have hbl := hL _ rfl
        have hpb := hB _ rfl
        dsimp only at hbl hpb ebv
        have hlt := lt_end (chC_end (m := m)) (a := b) (by omega)
        have hCa := CS.advG (c := chC m) hq hC hB (by omega) h0c
        have hFa := hF.one (o := 1) (k := 2) (Or.inr (by omega)) (mi N 1 2 + 1)
        have hBa := PB.adv chC_end (c := chC m) hB h0c
        refine j_aload_n rfl rfl ?_
        refine j_dup rfl (Nat.ne_of_beq_eq_false rfl) ?_
        refine j_getI rfl f_X6_19 rfl ((hF.cg g).1.lt (by decide)) ((hF.cg g).1.k (by decide) (by decide)) ?_
        have u42_1 := mi_rng N 1 2
        refine j_iconst rfl ?_
        refine j_iadd rfl ?_
        refine j_putI rfl f_X6_19 rfl ((hF.cg g).1.lt (by decide)) ((hF.cg g).1.k (by decide) (by decide)) ?_
        generalize si N 1 2 (mi N 1 2 + 1) = Na at hCa hFa ⊢
        refine j_aload_n rfl rfl ?_
        refine j_iload_n rfl rfl ?_
        refine j_iconst rfl ?_
        refine j_iadd rfl ?_
        refine j_iload_n rfl rfl ?_
        refine j_callV (ci := 6) rfl okX6_readPart c_X6_55 (hf q Na (pAdv (.ok (b, v))) (hFa.cg g) hCa (by rw [show mi Na 1 1 = mi m 1 1 from hFa.cell (by omega) (by omega)]; exact (hBa.up (by decide)))) rfl rfl ((hFa.cg g).1.lt (by decide)) ((hFa.cg g).1.k (by decide) (by decide)) (by decide) rfl (Nat.le_of_ble_eq_true rfl) (RB.call hRB (by omega) (by decide)) ⟨Nat.le_refl _, Nat.le_refl _⟩ ?_
        rintro vq N1 ⟨e1, hF2, hC3⟩
        rw [e1]
        clear e1
        simp only [Option.toList_some, Option.toList_none, List.cons_append, List.nil_append]
        rw [hFa.ch hq] at hC3
        have hF2 := hFa.trans hF2
        have hC3 : CS q N1 (pThen (pAdv (.ok (b, v))) (f (chC m))) := hC3
        have hB4 := pGood.pb hg hBa
        refine j_aload_n rfl rfl ?_
        refine j_getR (q := q) rfl f_X6_26 rfl ((hF2.cg g).1.lt (by decide)) ((hF2.cg g).1.k (by decide) (by decide)) (hF2.cg g).2.2.2.1 ?_
        refine j_iload_n rfl rfl ?_
        refine j_iconst rfl ?_
        refine j_callV (ci := 5) rfl okX5_append c_X6_87 (ct_X5_append (by omega) (by omega) (by omega) (by omega) (hF2.cg g).2.2.1 (hC3.used hB4 (by omega) (by omega)).1) rfl rfl (hF2.cg g).2.2.1.1 (hF2.cg g).2.2.1.2.1 (by decide) rfl (Nat.le_of_ble_eq_true rfl) (RB.call hRB (by omega) (by decide)) ⟨Nat.le_refl _, Nat.le_refl _⟩ ?_
        rintro vq mq ⟨e1, e2⟩
        have e2 : mq = apM q N1 (opG lv (chP (chC m) (.ok (b, v))) : Int) 0 := e2
        rw [e1, e2]
        clear e1 e2
        simp only [Option.toList_some, Option.toList_none, List.cons_append, List.nil_append]
        have hC7 : CS q (apM q N1 (opG lv (chP (chC m) (.ok (b, v))) : Int) 0) (pApp (pThen (pAdv (.ok (b, v))) (f (chC m))) (opG lv (chP (chC m) (.ok (b, v)))) 0) := CS.app hq hC3 hB4 (by omega) (opG lv (chP (chC m) (.ok (b, v)))) 0
        have hF6 := apM_fc hF2 (opG lv (chP (chC m) (.ok (b, v))) : Int) 0
        have hB8 := PB.app hB4 (opG lv (chP (chC m) (.ok (b, v)))) 0
        generalize apM q N1 (opG lv (chP (chC m) (.ok (b, v))) : Int) 0 = N5 at hF6 hC7 ⊢
        have hl2i : (lv : Int) ≠ 2 := by omega
        refine j_iload_n rfl rfl ?_
        refine j_iconst rfl ?_
        refine j_icmp_ne (tgt := 76) rfl (by decide) (by omega) (by omega) (by omega) (by omega) (fun hb69_1 => ?_) (fun hb69_1 => ?_)
        · skip
          refine j_aload_n rfl rfl ?_
          refine j_iload_n rfl rfl ?_
          refine j_callV (ci := 6) rfl okX6_operatorOf c_X6_84 (ct_X6_operatorOf (hF6.cg g) hC7 (by rw [show mi N5 1 1 = mi m 1 1 from hF6.cell (by omega) (by omega)]; exact (hB8.up (by decide))) (lv := lv) hlv) rfl rfl ((hF6.cg g).1.lt (by decide)) ((hF6.cg g).1.k (by decide) (by decide)) (by decide) rfl (Nat.le_of_ble_eq_true rfl) (RB.call hRB (by omega) (by decide)) ⟨Nat.le_refl _, Nat.le_refl _⟩ ?_
          rintro vq mq ⟨e1, e2⟩
          rw [hF6.ch hq] at e1
          rw [e1, e2]
          clear e1 e2
          simp only [Option.toList_some, Option.toList_none, List.cons_append, List.nil_append]
          have hol9 := opG_le lv (chP (chC m) (pApp (pThen (pAdv (.ok (b, v))) (f (chC m))) (opG lv (chP (chC m) (.ok (b, v)))) 0))
          refine j_istore_n rfl (by decide) ?_
          refine j_iinc rfl rfl (by decide) ?_
          refine j_goto (tgt := 28) rfl (by decide) ?_
          refine j_loc (ls' := [(0, vR 1), (1, vI (lv : Int)), (2, vI o), (3, vI (opG lv (chP (chC m) (pApp (pThen (pAdv (.ok (b, v))) (f (chC m))) (opG lv (chP (chC m) (.ok (b, v)))) 0)) : Int)), (4, vI (n + 1))]) rfl ?_
          refine ih (n + 1) N5 (pApp (pThen (pAdv (.ok (b, v))) (f (chC m))) (opG lv (chP (chC m) (.ok (b, v)))) 0) hF6 hC7 hB8 (by omega) (by omega) (fun s hs => ?_) ?_
          · have := turn_ok hg (by omega) (by omega) hs
            omega
          · rw [← hT]
            exact pLoop_1 (show opG lv (chC m b) ≠ 0 from hne) x
        · skip
          exfalso; omega

set_option maxRecDepth 20000 in
set_option maxHeartbeats 4000000 in
theorem ct_X6_readPartL {G : QW} {lv : Nat} {o : Int} {d : Nat} {f : (Int → Int) → PSt → PRes} (hl2 : lv ≠ 2) (hlv : lv ≤ 4) (hd : 1 ≤ d) (hf : CtC G mX6_readPart d [vR 1, vI ((lv : Int) + 1), vI o] f) (hgf : ∀ (c : Int → Int) (N : Int), (∀ x, N ≤ x → c x < 0) → pGood c N (f c)) : CtC G mX6_readPart (d + 1) [vR 1, vI (lv : Int), vI o] (fun c => pLev c (opG lv) (f c)) := by
  intro q m r g h hb
  have hg := hgf (chC m) (mi m 1 1) chC_end
  refine qM.intro okX6_readPart (Nat.le_of_ble_eq_true rfl) ?_
  have hRB := RBn (d + 1)
  have hq : 62 ≤ q := g.2.1
  have hlen := g.2.2.2.2.1
  refine j_iload_n rfl rfl ?_
  refine j_iconst rfl ?_
  refine j_icmp_ne (tgt := 11) rfl (by decide) (by omega) (by omega) (by omega) (by omega) (fun hb2_1 => ?_) (fun hb2_1 => ?_)
  · skip
    refine j_aload_n rfl rfl ?_
    refine j_iload_n rfl rfl ?_
    refine j_iconst rfl ?_
    refine j_iadd rfl ?_
    refine j_iload_n rfl rfl ?_
    refine j_callV (ci := 6) rfl okX6_readPart c_X6_55 (hf q m r g h (hb.up (by decide))) rfl rfl (g.1.lt (by decide)) (g.1.k (by decide) (by decide)) (by decide) rfl (Nat.le_of_ble_eq_true rfl) (RB.call hRB (by omega) (by decide)) ⟨Nat.le_refl _, Nat.le_refl _⟩ ?_
    rintro vq N1 ⟨e1, hF2, hC3⟩
    rw [e1]
    clear e1
    simp only [Option.toList_some, Option.toList_none, List.cons_append, List.nil_append]
    have hC3 : CS q N1 (pThen r (f (chC m))) := hC3
    have hB4 := pGood.pb hg hb
    refine j_aload_n rfl rfl ?_
    refine j_iload_n rfl rfl ?_
    refine j_callV (ci := 6) rfl okX6_operatorOf c_X6_84 (ct_X6_operatorOf (hF2.cg g) hC3 (by rw [show mi N1 1 1 = mi m 1 1 from hF2.cell (by omega) (by omega)]; exact (hB4.up (by decide))) (lv := lv) hlv) rfl rfl ((hF2.cg g).1.lt (by decide)) ((hF2.cg g).1.k (by decide) (by decide)) (by decide) rfl (Nat.le_of_ble_eq_true rfl) (RB.call hRB (by omega) (by decide)) ⟨Nat.le_refl _, Nat.le_refl _⟩ ?_
    rintro vq mq ⟨e1, e2⟩
    rw [hF2.ch hq] at e1
    rw [e1, e2]
    clear e1 e2
    simp only [Option.toList_some, Option.toList_none, List.cons_append, List.nil_append]
    have hol5 := opG_le lv (chP (chC m) (pThen r (f (chC m))))
    refine j_istore_n rfl (by decide) ?_
    refine j_iconst rfl ?_
    refine j_istore rfl (by decide) ?_
    refine j_loc (ls' := [(0, vR 1), (1, vI (lv : Int)), (2, vI o), (3, vI (opG lv (chP (chC m) (pThen r (f (chC m)))) : Int)), (4, vI 0)]) rfl ?_
    refine lp_readPart_28 g hlv hl2 hd hf hg 200 0 N1 (pThen r (f (chC m))) hF2 hC3 hB4 (by decide) (by decide) (fun s hs => ?_) ?_
    · obtain ⟨⟨a, w⟩, rfl, e⟩ := pThen_ok hs
      have ha := hb _ rfl
      dsimp only at ha
      have := (hg a w (by omega) (by omega)).1 s e
      omega
    · cases r <;> rfl
  · skip
    exfalso; omega

set_option maxRecDepth 20000 in
set_option maxHeartbeats 4000000 in
theorem ct_X6_readPart2 {G : QW} {o : Int} {d : Nat} {f : (Int → Int) → PSt → PRes} (hd : 1 ≤ d) (hf : CtC G mX6_readPart d [vR 1, vI (2 + 1), vI o] f) (hgf : ∀ (c : Int → Int) (N : Int), (∀ x, N ≤ x → c x < 0) → pGood c N (f c)) : CtC G mX6_readPart (d + 1) [vR 1, vI 2, vI o] (fun c => pCmp c (f c)) := by
  intro q m r g h hb
  have hg := hgf (chC m) (mi m 1 1) chC_end
  refine qM.intro okX6_readPart (Nat.le_of_ble_eq_true rfl) ?_
  have hRB := RBn (d + 1)
  have hq : 62 ≤ q := g.2.1
  have hlen := g.2.2.2.2.1
  refine j_iload_n rfl rfl ?_
  refine j_iconst rfl ?_
  refine j_icmp_ne (tgt := 11) rfl (by decide) (by omega) (by omega) (by omega) (by omega) (fun hb2_1 => ?_) (fun hb2_1 => ?_)
  · skip
    refine j_aload_n rfl rfl ?_
    refine j_iload_n rfl rfl ?_
    refine j_iconst rfl ?_
    refine j_iadd rfl ?_
    refine j_iload_n rfl rfl ?_
    refine j_callV (ci := 6) rfl okX6_readPart c_X6_55 (hf q m r g h (hb.up (by decide))) rfl rfl (g.1.lt (by decide)) (g.1.k (by decide) (by decide)) (by decide) rfl (Nat.le_of_ble_eq_true rfl) (RB.call hRB (by omega) (by decide)) ⟨Nat.le_refl _, Nat.le_refl _⟩ ?_
    rintro vq N1 ⟨e1, hF2, hC3⟩
    rw [e1]
    clear e1
    simp only [Option.toList_some, Option.toList_none, List.cons_append, List.nil_append]
    have hC3 : CS q N1 (pThen r (f (chC m))) := hC3
    have hB4 := pGood.pb hg hb
    refine j_aload_n rfl rfl ?_
    refine j_iload_n rfl rfl ?_
    refine j_callV (ci := 6) rfl okX6_operatorOf c_X6_84 (ct_X6_operatorOf (hF2.cg g) hC3 (by rw [show mi N1 1 1 = mi m 1 1 from hF2.cell (by omega) (by omega)]; exact (hB4.up (by decide))) (lv := 2) (by decide)) rfl rfl ((hF2.cg g).1.lt (by decide)) ((hF2.cg g).1.k (by decide) (by decide)) (by decide) rfl (Nat.le_of_ble_eq_true rfl) (RB.call hRB (by omega) (by decide)) ⟨Nat.le_refl _, Nat.le_refl _⟩ ?_
    rintro vq mq ⟨e1, e2⟩
    rw [hF2.ch hq] at e1
    rw [e1, e2]
    clear e1 e2
    simp only [Option.toList_some, Option.toList_none, List.cons_append, List.nil_append]
    have hol5 := opG_le 2 (chP (chC m) (pThen r (f (chC m))))
    refine j_istore_n rfl (by decide) ?_
    refine j_iconst rfl ?_
    refine j_istore rfl (by decide) ?_
    refine j_iload rfl rfl ?_
    refine j_sipush rfl (by decide) ?_
    refine j_icmp_ge (tgt := 88) rfl (by decide) (by omega) (by omega) (by omega) (by omega) (fun hb33_1 => ?_) (fun hb33_1 => ?_)
    · skip
      refine j_vret rfl rfl ?_ rfl (Nat.le_refl _)
      refine ⟨rfl, hF2, ?_⟩
      show CS q _ (pThen r (pCmp (chC m) (f (chC m))))
      rw [pCmp_0 (by omega)]
      exact hC3
    · skip
      refine j_iload_n rfl rfl ?_
      refine j_if_eq (tgt := 88) rfl (by decide) (by omega) (by omega) (fun hb37_1 => ?_) (fun hb37_1 => ?_)
      · skip
        refine j_vret rfl rfl ?_ rfl (Nat.le_refl _)
        refine ⟨rfl, hF2, ?_⟩
        show CS q _ (pThen r (pCmp (chC m) (f (chC m))))
        rw [pCmp_0 (by omega)]
        exact hC3
      · skip
        have hne : opG 2 (chP (chC m) (pThen r (f (chC m)))) ≠ 0 := by omega
        have h0c := opG_ok hne
        have hCa := CS.advG (c := chC m) hq hC3 hB4 (by omega) h0c
        have hFa := hF2.one (o := 1) (k := 2) (Or.inr (by omega)) (mi N1 1 2 + 1)
        have hBa := PB.adv chC_end (c := chC m) hB4 h0c
        refine j_aload_n rfl rfl ?_
        refine j_dup rfl (Nat.ne_of_beq_eq_false rfl) ?_
        refine j_getI rfl f_X6_19 rfl ((hF2.cg g).1.lt (by decide)) ((hF2.cg g).1.k (by decide) (by decide)) ?_
        have u42_1 := mi_rng N1 1 2
        refine j_iconst rfl ?_
        refine j_iadd rfl ?_
        refine j_putI rfl f_X6_19 rfl ((hF2.cg g).1.lt (by decide)) ((hF2.cg g).1.k (by decide) (by decide)) ?_
        generalize si N1 1 2 (mi N1 1 2 + 1) = Na at hCa hFa ⊢
        refine j_aload_n rfl rfl ?_
        refine j_iload_n rfl rfl ?_
        refine j_iconst rfl ?_
        refine j_iadd rfl ?_
        refine j_iload_n rfl rfl ?_
        refine j_callV (ci := 6) rfl okX6_readPart c_X6_55 (hf q Na (pAdv (pThen r (f (chC m)))) (hFa.cg g) hCa (by rw [show mi Na 1 1 = mi m 1 1 from hFa.cell (by omega) (by omega)]; exact (hBa.up (by decide)))) rfl rfl ((hFa.cg g).1.lt (by decide)) ((hFa.cg g).1.k (by decide) (by decide)) (by decide) rfl (Nat.le_of_ble_eq_true rfl) (RB.call hRB (by omega) (by decide)) ⟨Nat.le_refl _, Nat.le_refl _⟩ ?_
        rintro vq N6 ⟨e1, hF7, hC8⟩
        rw [e1]
        clear e1
        simp only [Option.toList_some, Option.toList_none, List.cons_append, List.nil_append]
        rw [hFa.ch hq] at hC8
        have hF7 := hFa.trans hF7
        have hC8 : CS q N6 (pThen (pAdv (pThen r (f (chC m)))) (f (chC m))) := hC8
        have hB9 := pGood.pb hg hBa
        refine j_aload_n rfl rfl ?_
        refine j_getR (q := q) rfl f_X6_26 rfl ((hF7.cg g).1.lt (by decide)) ((hF7.cg g).1.k (by decide) (by decide)) (hF7.cg g).2.2.2.1 ?_
        refine j_iload_n rfl rfl ?_
        refine j_iconst rfl ?_
        refine j_callV (ci := 5) rfl okX5_append c_X6_87 (ct_X5_append (by omega) (by omega) (by omega) (by omega) (hF7.cg g).2.2.1 (hC8.used hB9 (by omega) (by omega)).1) rfl rfl (hF7.cg g).2.2.1.1 (hF7.cg g).2.2.1.2.1 (by decide) rfl (Nat.le_of_ble_eq_true rfl) (RB.call hRB (by omega) (by decide)) ⟨Nat.le_refl _, Nat.le_refl _⟩ ?_
        rintro vq mq ⟨e1, e2⟩
        have e2 : mq = apM q N6 (opG 2 (chP (chC m) (pThen r (f (chC m)))) : Int) 0 := e2
        rw [e1, e2]
        clear e1 e2
        simp only [Option.toList_some, Option.toList_none, List.cons_append, List.nil_append]
        have hC12 : CS q (apM q N6 (opG 2 (chP (chC m) (pThen r (f (chC m)))) : Int) 0) (pApp (pThen (pAdv (pThen r (f (chC m)))) (f (chC m))) (opG 2 (chP (chC m) (pThen r (f (chC m))))) 0) := CS.app hq hC8 hB9 (by omega) (opG 2 (chP (chC m) (pThen r (f (chC m))))) 0
        have hF11 := apM_fc hF7 (opG 2 (chP (chC m) (pThen r (f (chC m)))) : Int) 0
        have hB13 := PB.app hB9 (opG 2 (chP (chC m) (pThen r (f (chC m))))) 0
        generalize apM q N6 (opG 2 (chP (chC m) (pThen r (f (chC m)))) : Int) 0 = N10 at hF11 hC12 ⊢
        refine j_iload_n rfl rfl ?_
        refine j_iconst rfl ?_
        refine j_icmp_ne (tgt := 76) rfl (by decide) (by omega) (by omega) (by omega) (by omega) (fun hb69_1 => ?_) (fun hb69_1 => ?_)
        · skip
          exfalso; omega
        · skip
          refine j_iconst rfl ?_
          refine j_goto (tgt := 81) rfl (by decide) ?_
          refine j_istore_n rfl (by decide) ?_
          refine j_iinc rfl rfl (by decide) ?_
          refine j_goto (tgt := 28) rfl (by decide) ?_
          refine j_iload rfl rfl ?_
          refine j_sipush rfl (by decide) ?_
          refine j_icmp_ge (tgt := 88) rfl (by decide) (by omega) (by omega) (by omega) (by omega) (fun hb33_2 => ?_) (fun hb33_2 => ?_)
          · skip
            refine j_vret rfl rfl ?_ rfl (Nat.le_refl _)
            refine ⟨rfl, hF11, ?_⟩
            show CS q _ (pThen r (pCmp (chC m) (f (chC m))))
            rw [pCmp_1 hne]
            exact hC12
          · skip
            refine j_iload_n rfl rfl ?_
            refine j_if_eq (tgt := 88) rfl (by decide) (by omega) (by omega) (fun hb37_2 => ?_) (fun hb37_2 => ?_)
            · skip
              refine j_vret rfl rfl ?_ rfl (Nat.le_refl _)
              refine ⟨rfl, hF11, ?_⟩
              show CS q _ (pThen r (pCmp (chC m) (f (chC m))))
              rw [pCmp_1 hne]
              exact hC12
            · skip
              exfalso; omega
  · skip
    exfalso; omega

set_option maxRecDepth 20000 in
set_option maxHeartbeats 4000000 in
theorem ct_X6_readPart5 {G : QW} {o : Int} {d : Nat} {f : (Int → Int) → PSt → PRes} (hd : 1 ≤ d) (hf : CtC G mX6_readOperand d [vR 1, vI o] f) (hgf : ∀ (c : Int → Int) (N : Int), (∀ x, N ≤ x → c x < 0) → pGood c N (f c)) : CtC G mX6_readPart (d + 1) [vR 1, vI 5, vI o] f := by
  intro q m r g h hb
  have hg := hgf (chC m) (mi m 1 1) chC_end
  refine qM.intro okX6_readPart (Nat.le_of_ble_eq_true rfl) ?_
  have hRB := RBn (d + 1)
  have hq : 62 ≤ q := g.2.1
  have hlen := g.2.2.2.2.1
  refine j_iload_n rfl rfl ?_
  refine j_iconst rfl ?_
  refine j_icmp_ne (tgt := 11) rfl (by decide) (by omega) (by omega) (by omega) (by omega) (fun hb2_1 => ?_) (fun hb2_1 => ?_)
  · skip
    exfalso; omega
  · skip
    refine j_aload_n rfl rfl ?_
    refine j_iload_n rfl rfl ?_
    refine j_callV (ci := 6) rfl okX6_readOperand c_X6_81 (hf q m r g h (hb.up (by decide))) rfl rfl (g.1.lt (by decide)) (g.1.k (by decide) (by decide)) (by decide) rfl (Nat.le_of_ble_eq_true rfl) (RB.call hRB (by omega) (by decide)) ⟨Nat.le_refl _, Nat.le_refl _⟩ ?_
    rintro vq N1 ⟨e1, hF2, hC3⟩
    rw [e1]
    clear e1
    simp only [Option.toList_some, Option.toList_none, List.cons_append, List.nil_append]
    have hC3 : CS q N1 (pThen r (f (chC m))) := hC3
    have hB4 := pGood.pb hg hb
    refine j_vret rfl rfl ?_ rfl (Nat.le_refl _)
    exact ⟨rfl, hF2, hC3⟩


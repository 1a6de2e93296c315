def pName (c : Int → Int) (s : PSt) : PRes :=
  if c s.1 = 114 then pIdx c 1 7 s else if c s.1 = 105 then pIdx c 2 3 s else if c s.1 = 102 then pIdx c 3 2 s
  else if c s.1 = 116 then .ok (s.1 + 1, s.2 ++ [(4, 0)]) else if c s.1 = 101 then .ok (s.1 + 1, s.2 ++ [(5, 0)]) else .error s.1
theorem pApp_err (r : PRes) (a : Nat) (b : Int) : pApp (pErr r) a b = pErr r := by cases r <;> rfl
theorem pIdx_y {c : Int → Int} {r : PRes} (h0 : 0 ≤ chP c r) {what : Nat} {most : Int} (h : 48 ≤ chP c (pAdv r) ∧ chP c (pAdv r) < 48 + (most + 1)) : pThen r (pIdx c what most) = pApp (pAdv (pAdv r)) what (chP c (pAdv r) - 48) := by
  obtain ⟨⟨a, w⟩, rfl, e⟩ := chP_ok h0
  have h2 : 48 ≤ c (a + 1) ∧ c (a + 1) < 48 + (most + 1) := h
  show pIdx c what most (a, w) = _
  unfold pIdx
  dsimp only
  rw [if_pos (by omega)]
  rfl
theorem pIdx_n {c : Int → Int} {r : PRes} (h0 : 0 ≤ chP c r) {what : Nat} {most : Int} (h : ¬ (48 ≤ chP c (pAdv r) ∧ chP c (pAdv r) < 48 + (most + 1))) : pThen r (pIdx c what most) = pErr (pAdv r) := by
  obtain ⟨⟨a, w⟩, rfl, e⟩ := chP_ok h0
  have h2 : ¬ (48 ≤ c (a + 1) ∧ c (a + 1) < 48 + (most + 1)) := h
  show pIdx c what most (a, w) = _
  unfold pIdx
  dsimp only
  rw [if_neg (by omega)]
  rfl
theorem pN_r {c : Int → Int} {r : PRes} (h : chP c r = 114) : pThen r (pName c) = pThen r (pIdx c 1 7) := by
  obtain ⟨⟨a, w⟩, rfl, e⟩ := chP_ok (c := c) (r := r) (by omega)
  show pName c (a, w) = pIdx c 1 7 (a, w)
  unfold pName
  rw [if_pos (by dsimp only at e ⊢; omega)]
theorem pN_i {c : Int → Int} {r : PRes} (h : chP c r = 105) : pThen r (pName c) = pThen r (pIdx c 2 3) := by
  obtain ⟨⟨a, w⟩, rfl, e⟩ := chP_ok (c := c) (r := r) (by omega)
  show pName c (a, w) = pIdx c 2 3 (a, w)
  dsimp only at e
  unfold pName
  rw [if_neg (by dsimp only; omega), if_pos (by dsimp only; omega)]
theorem pN_f {c : Int → Int} {r : PRes} (h : chP c r = 102) : pThen r (pName c) = pThen r (pIdx c 3 2) := by
  obtain ⟨⟨a, w⟩, rfl, e⟩ := chP_ok (c := c) (r := r) (by omega)
  show pName c (a, w) = pIdx c 3 2 (a, w)
  dsimp only at e
  unfold pName
  rw [if_neg (by dsimp only; omega), if_neg (by dsimp only; omega), if_pos (by dsimp only; omega)]
theorem pN_t {c : Int → Int} {r : PRes} (h : chP c r = 116) : pThen r (pName c) = pApp (pAdv r) 4 0 := by
  obtain ⟨⟨a, w⟩, rfl, e⟩ := chP_ok (c := c) (r := r) (by omega)
  show pName c (a, w) = _
  dsimp only at e
  unfold pName
  rw [if_neg (by dsimp only; omega), if_neg (by dsimp only; omega), if_neg (by dsimp only; omega), if_pos (by dsimp only; omega)]
  rfl
theorem pN_e {c : Int → Int} {r : PRes} (h : chP c r = 101) : pThen r (pName c) = pApp (pAdv r) 5 0 := by
  obtain ⟨⟨a, w⟩, rfl, e⟩ := chP_ok (c := c) (r := r) (by omega)
  show pName c (a, w) = _
  dsimp only at e
  unfold pName
  rw [if_neg (by dsimp only; omega), if_neg (by dsimp only; omega), if_neg (by dsimp only; omega), if_neg (by dsimp only; omega), if_pos (by dsimp only; omega)]
  rfl
theorem pN_x {c : Int → Int} {r : PRes} (h1 : chP c r ≠ 114) (h2 : chP c r ≠ 105) (h3 : chP c r ≠ 102) (h4 : chP c r ≠ 116) (h5 : chP c r ≠ 101) : pThen r (pName c) = pErr r := by
  cases r with
  | error p => rfl
  | ok s =>
    show pName c s = _
    unfold pName
    rw [if_neg (show ¬ c s.1 = 114 from h1), if_neg (show ¬ c s.1 = 105 from h2), if_neg (show ¬ c s.1 = 102 from h3), if_neg (show ¬ c s.1 = 116 from h4), if_neg (show ¬ c s.1 = 101 from h5)]
    rfl

set_option maxRecDepth 20000 in
set_option maxHeartbeats 4000000 in
theorem ct_X6_readName {G : QW} : CtC G mX6_readName 2 [vR 1] pName := by
  intro q m r g h hb
  refine qM.intro okX6_readName (Nat.le_of_ble_eq_true rfl) ?_
  have hq : 62 ≤ q := g.2.1
  have hlen := g.2.2.2.2.1
  refine j_aload_n rfl rfl ?_
  refine j_bipush rfl (by decide) ?_
  refine j_callV (ci := 6) rfl okX6_takes c_X6_42 (ct_X6_takes g h hb (b := 114) (by decide)) rfl rfl (g.1.lt (by decide)) (g.1.k (by decide) (by decide)) (by decide) rfl (Nat.le_of_ble_eq_true rfl) (by decide) (by decide) ?_
  rintro vq M2 ht1
  rcases ht1 with ⟨hy3, e1, hF4, hC5⟩ | ⟨hy3, e1, e2⟩
  · rw [e1]
    simp only [Option.toList_some, Option.toList_none, List.cons_append, List.nil_append]
    have hB6 := PB.adv chC_end hb (c := chC m) (r := r) (by omega)
    refine j_if_eq (tgt := 26) rfl (by decide) (by decide) (by decide) (fun z => absurd z (by decide)) (fun _ => ?_)
    refine j_aload_n rfl rfl ?_
    refine j_getR (q := q) rfl f_X6_26 rfl ((hF4.cg g).1.lt (by decide)) ((hF4.cg g).1.k (by decide) (by decide)) (hF4.cg g).2.2.2.1 ?_
    refine j_iconst rfl ?_
    refine j_aload_n rfl rfl ?_
    refine j_bipush rfl (by decide) ?_
    refine j_callV (ci := 6) rfl okX6_readDigit c_X6_77 (ct_X6_readDigit (hF4.cg g) hC5 (by rw [show mi M2 1 1 = mi m 1 1 from hF4.cell (by omega) (by omega)]; exact (hB6.up (by decide))) (b := 8) (by decide)) rfl rfl ((hF4.cg g).1.lt (by decide)) ((hF4.cg g).1.k (by decide) (by decide)) (by decide) rfl (Nat.le_of_ble_eq_true rfl) (by decide) (by decide) ?_
    rintro vq M8 hd7
    rw [hF4.ch hq] at hd7
    rcases hd7 with ⟨hd1, hd2, e1, hFd, hCd⟩ | ⟨hdn, e1, hFd, hCd⟩
    · rw [e1]
      simp only [Option.toList_some, Option.toList_none, List.cons_append, List.nil_append]
      have hBd := (PB.adv chC_end (c := chC m) (hB6.up (Int.le_of_lt Int.one_pos)) (by omega) : PB _ 1 (pAdv (pAdv r)))
      have hFd := hF4.trans hFd
      refine j_callV (ci := 5) rfl okX5_append c_X6_87 (ct_X5_append (by omega) (by omega) (by omega) (by omega) (hFd.cg g).2.2.1 (hCd.used hBd (by omega) (by omega)).1) rfl rfl (hFd.cg g).2.2.1.1 (hFd.cg g).2.2.1.2.1 (by decide) rfl (Nat.le_of_ble_eq_true rfl) (by decide) (by decide) ?_
      rintro vq mq ⟨e1, e2⟩
      have e2 : mq = apM q M8 1 (chP (chC m) (pAdv r) - 48) := e2
      rw [e1, e2]
      clear e1 e2
      simp only [Option.toList_some, Option.toList_none, List.cons_append, List.nil_append]
      have hC11 : CS q (apM q M8 1 (chP (chC m) (pAdv r) - 48)) (pApp (pAdv (pAdv r)) 1 (chP (chC m) (pAdv r) - 48)) := CS.app hq hCd hBd (by omega) 1 (chP (chC m) (pAdv r) - 48)
      have hF10 := apM_fc hFd 1 (chP (chC m) (pAdv r) - 48)
      have hB12 := PB.app hBd 1 (chP (chC m) (pAdv r) - 48)
      generalize apM q M8 1 (chP (chC m) (pAdv r) - 48) = N9 at hF10 hC11 ⊢
      refine j_goto (tgt := 123) rfl (by decide) ?_
      refine j_vret rfl rfl ?_ rfl (Nat.le_refl _)
      exact ⟨rfl, hF10, by rw [pN_r hy3, pIdx_y (by omega) ⟨hd1, by omega⟩]; exact hC11⟩
    · rw [e1]
      simp only [Option.toList_some, Option.toList_none, List.cons_append, List.nil_append]
      have hBd := (PB.err hB6 : PB _ 1 (pErr (pAdv r)))
      have hFd := hF4.trans hFd
      refine j_callV (ci := 5) rfl okX5_append c_X6_87 (ct_X5_append (by omega) (by omega) (by omega) (by omega) (hFd.cg g).2.2.1 (hCd.used hBd (by omega) (by omega)).1) rfl rfl (hFd.cg g).2.2.1.1 (hFd.cg g).2.2.1.2.1 (by decide) rfl (Nat.le_of_ble_eq_true rfl) (by decide) (by decide) ?_
      rintro vq mq ⟨e1, e2⟩
      have e2 : mq = apM q M8 1 0 := e2
      rw [e1, e2]
      clear e1 e2
      simp only [Option.toList_some, Option.toList_none, List.cons_append, List.nil_append]
      have hC15 : CS q (apM q M8 1 0) (pApp (pErr (pAdv r)) 1 0) := CS.app hq hCd hBd (by omega) 1 0
      have hF14 := apM_fc hFd 1 0
      have hB16 := PB.app hBd 1 0
      generalize apM q M8 1 0 = N13 at hF14 hC15 ⊢
      refine j_goto (tgt := 123) rfl (by decide) ?_
      refine j_vret rfl rfl ?_ rfl (Nat.le_refl _)
      exact ⟨rfl, hF14, by rw [pN_r hy3, pIdx_n (by omega) (by omega)]; rw [pApp_err] at hC15; exact hC15⟩
  · rw [e1, e2]
    simp only [Option.toList_some, Option.toList_none, List.cons_append, List.nil_append]
    refine j_if_eq (tgt := 26) rfl (by decide) (by decide) (by decide) (fun _ => ?_) (fun z => absurd z (by decide))
    refine j_aload_n rfl rfl ?_
    refine j_bipush rfl (by decide) ?_
    refine j_callV (ci := 6) rfl okX6_takes c_X6_42 (ct_X6_takes g h hb (b := 105) (by decide)) rfl rfl (g.1.lt (by decide)) (g.1.k (by decide) (by decide)) (by decide) rfl (Nat.le_of_ble_eq_true rfl) (by decide) (by decide) ?_
    rintro vq M18 ht17
    rcases ht17 with ⟨hy19, e1, hF20, hC21⟩ | ⟨hy19, e1, e2⟩
    · rw [e1]
      simp only [Option.toList_some, Option.toList_none, List.cons_append, List.nil_append]
      have hB22 := PB.adv chC_end hb (c := chC m) (r := r) (by omega)
      refine j_if_eq (tgt := 51) rfl (by decide) (by decide) (by decide) (fun z => absurd z (by decide)) (fun _ => ?_)
      refine j_aload_n rfl rfl ?_
      refine j_getR (q := q) rfl f_X6_26 rfl ((hF20.cg g).1.lt (by decide)) ((hF20.cg g).1.k (by decide) (by decide)) (hF20.cg g).2.2.2.1 ?_
      refine j_iconst rfl ?_
      refine j_aload_n rfl rfl ?_
      refine j_iconst rfl ?_
      refine j_callV (ci := 6) rfl okX6_readDigit c_X6_77 (ct_X6_readDigit (hF20.cg g) hC21 (by rw [show mi M18 1 1 = mi m 1 1 from hF20.cell (by omega) (by omega)]; exact (hB22.up (by decide))) (b := 4) (by decide)) rfl rfl ((hF20.cg g).1.lt (by decide)) ((hF20.cg g).1.k (by decide) (by decide)) (by decide) rfl (Nat.le_of_ble_eq_true rfl) (by decide) (by decide) ?_
      rintro vq M24 hd23
      rw [hF20.ch hq] at hd23
      rcases hd23 with ⟨hd1, hd2, e1, hFd, hCd⟩ | ⟨hdn, e1, hFd, hCd⟩
      · rw [e1]
        simp only [Option.toList_some, Option.toList_none, List.cons_append, List.nil_append]
        have hBd := (PB.adv chC_end (c := chC m) (hB22.up (Int.le_of_lt Int.one_pos)) (by omega) : PB _ 1 (pAdv (pAdv r)))
        have hFd := hF20.trans hFd
        refine j_callV (ci := 5) rfl okX5_append c_X6_87 (ct_X5_append (by omega) (by omega) (by omega) (by omega) (hFd.cg g).2.2.1 (hCd.used hBd (by omega) (by omega)).1) rfl rfl (hFd.cg g).2.2.1.1 (hFd.cg g).2.2.1.2.1 (by decide) rfl (Nat.le_of_ble_eq_true rfl) (by decide) (by decide) ?_
        rintro vq mq ⟨e1, e2⟩
        have e2 : mq = apM q M24 2 (chP (chC m) (pAdv r) - 48) := e2
        rw [e1, e2]
        clear e1 e2
        simp only [Option.toList_some, Option.toList_none, List.cons_append, List.nil_append]
        have hC27 : CS q (apM q M24 2 (chP (chC m) (pAdv r) - 48)) (pApp (pAdv (pAdv r)) 2 (chP (chC m) (pAdv r) - 48)) := CS.app hq hCd hBd (by omega) 2 (chP (chC m) (pAdv r) - 48)
        have hF26 := apM_fc hFd 2 (chP (chC m) (pAdv r) - 48)
        have hB28 := PB.app hBd 2 (chP (chC m) (pAdv r) - 48)
        generalize apM q M24 2 (chP (chC m) (pAdv r) - 48) = N25 at hF26 hC27 ⊢
        refine j_goto (tgt := 123) rfl (by decide) ?_
        refine j_vret rfl rfl ?_ rfl (Nat.le_refl _)
        exact ⟨rfl, hF26, by rw [pN_i hy19, pIdx_y (by omega) ⟨hd1, by omega⟩]; exact hC27⟩
      · rw [e1]
        simp only [Option.toList_some, Option.toList_none, List.cons_append, List.nil_append]
        have hBd := (PB.err hB22 : PB _ 1 (pErr (pAdv r)))
        have hFd := hF20.trans hFd
        refine j_callV (ci := 5) rfl okX5_append c_X6_87 (ct_X5_append (by omega) (by omega) (by omega) (by omega) (hFd.cg g).2.2.1 (hCd.used hBd (by omega) (by omega)).1) rfl rfl (hFd.cg g).2.2.1.1 (hFd.cg g).2.2.1.2.1 (by decide) rfl (Nat.le_of_ble_eq_true rfl) (by decide) (by decide) ?_
        rintro vq mq ⟨e1, e2⟩
        have e2 : mq = apM q M24 2 0 := e2
        rw [e1, e2]
        clear e1 e2
        simp only [Option.toList_some, Option.toList_none, List.cons_append, List.nil_append]
        have hC31 : CS q (apM q M24 2 0) (pApp (pErr (pAdv r)) 2 0) := CS.app hq hCd hBd (by omega) 2 0
        have hF30 := apM_fc hFd 2 0
        have hB32 := PB.app hBd 2 0
        generalize apM q M24 2 0 = N29 at hF30 hC31 ⊢
        refine j_goto (tgt := 123) rfl (by decide) ?_
        refine j_vret rfl rfl ?_ rfl (Nat.le_refl _)
        exact ⟨rfl, hF30, by rw [pN_i hy19, pIdx_n (by omega) (by omega)]; rw [pApp_err] at hC31; exact hC31⟩
    · rw [e1, e2]
      simp only [Option.toList_some, Option.toList_none, List.cons_append, List.nil_append]
      refine j_if_eq (tgt := 51) rfl (by decide) (by decide) (by decide) (fun _ => ?_) (fun z => absurd z (by decide))
      refine j_aload_n rfl rfl ?_
      refine j_bipush rfl (by decide) ?_
      refine j_callV (ci := 6) rfl okX6_takes c_X6_42 (ct_X6_takes g h hb (b := 102) (by decide)) rfl rfl (g.1.lt (by decide)) (g.1.k (by decide) (by decide)) (by decide) rfl (Nat.le_of_ble_eq_true rfl) (by decide) (by decide) ?_
      rintro vq M34 ht33
      rcases ht33 with ⟨hy35, e1, hF36, hC37⟩ | ⟨hy35, e1, e2⟩
      · rw [e1]
        simp only [Option.toList_some, Option.toList_none, List.cons_append, List.nil_append]
        have hB38 := PB.adv chC_end hb (c := chC m) (r := r) (by omega)
        refine j_if_eq (tgt := 76) rfl (by decide) (by decide) (by decide) (fun z => absurd z (by decide)) (fun _ => ?_)
        refine j_aload_n rfl rfl ?_
        refine j_getR (q := q) rfl f_X6_26 rfl ((hF36.cg g).1.lt (by decide)) ((hF36.cg g).1.k (by decide) (by decide)) (hF36.cg g).2.2.2.1 ?_
        refine j_iconst rfl ?_
        refine j_aload_n rfl rfl ?_
        refine j_iconst rfl ?_
        refine j_callV (ci := 6) rfl okX6_readDigit c_X6_77 (ct_X6_readDigit (hF36.cg g) hC37 (by rw [show mi M34 1 1 = mi m 1 1 from hF36.cell (by omega) (by omega)]; exact (hB38.up (by decide))) (b := 3) (by decide)) rfl rfl ((hF36.cg g).1.lt (by decide)) ((hF36.cg g).1.k (by decide) (by decide)) (by decide) rfl (Nat.le_of_ble_eq_true rfl) (by decide) (by decide) ?_
        rintro vq M40 hd39
        rw [hF36.ch hq] at hd39
        rcases hd39 with ⟨hd1, hd2, e1, hFd, hCd⟩ | ⟨hdn, e1, hFd, hCd⟩
        · rw [e1]
          simp only [Option.toList_some, Option.toList_none, List.cons_append, List.nil_append]
          have hBd := (PB.adv chC_end (c := chC m) (hB38.up (Int.le_of_lt Int.one_pos)) (by omega) : PB _ 1 (pAdv (pAdv r)))
          have hFd := hF36.trans hFd
          refine j_callV (ci := 5) rfl okX5_append c_X6_87 (ct_X5_append (by omega) (by omega) (by omega) (by omega) (hFd.cg g).2.2.1 (hCd.used hBd (by omega) (by omega)).1) rfl rfl (hFd.cg g).2.2.1.1 (hFd.cg g).2.2.1.2.1 (by decide) rfl (Nat.le_of_ble_eq_true rfl) (by decide) (by decide) ?_
          rintro vq mq ⟨e1, e2⟩
          have e2 : mq = apM q M40 3 (chP (chC m) (pAdv r) - 48) := e2
          rw [e1, e2]
          clear e1 e2
          simp only [Option.toList_some, Option.toList_none, List.cons_append, List.nil_append]
          have hC43 : CS q (apM q M40 3 (chP (chC m) (pAdv r) - 48)) (pApp (pAdv (pAdv r)) 3 (chP (chC m) (pAdv r) - 48)) := CS.app hq hCd hBd (by omega) 3 (chP (chC m) (pAdv r) - 48)
          have hF42 := apM_fc hFd 3 (chP (chC m) (pAdv r) - 48)
          have hB44 := PB.app hBd 3 (chP (chC m) (pAdv r) - 48)
          generalize apM q M40 3 (chP (chC m) (pAdv r) - 48) = N41 at hF42 hC43 ⊢
          refine j_goto (tgt := 123) rfl (by decide) ?_
          refine j_vret rfl rfl ?_ rfl (Nat.le_refl _)
          exact ⟨rfl, hF42, by rw [pN_f hy35, pIdx_y (by omega) ⟨hd1, by omega⟩]; exact hC43⟩
        · rw [e1]
          simp only [Option.toList_some, Option.toList_none, List.cons_append, List.nil_append]
          have hBd := (PB.err hB38 : PB _ 1 (pErr (pAdv r)))
          have hFd := hF36.trans hFd
          refine j_callV (ci := 5) rfl okX5_append c_X6_87 (ct_X5_append (by omega) (by omega) (by omega) (by omega) (hFd.cg g).2.2.1 (hCd.used hBd (by omega) (by omega)).1) rfl rfl (hFd.cg g).2.2.1.1 (hFd.cg g).2.2.1.2.1 (by decide) rfl (Nat.le_of_ble_eq_true rfl) (by decide) (by decide) ?_
          rintro vq mq ⟨e1, e2⟩
          have e2 : mq = apM q M40 3 0 := e2
          rw [e1, e2]
          clear e1 e2
          simp only [Option.toList_some, Option.toList_none, List.cons_append, List.nil_append]
          have hC47 : CS q (apM q M40 3 0) (pApp (pErr (pAdv r)) 3 0) := CS.app hq hCd hBd (by omega) 3 0
          have hF46 := apM_fc hFd 3 0
          have hB48 := PB.app hBd 3 0
          generalize apM q M40 3 0 = N45 at hF46 hC47 ⊢
          refine j_goto (tgt := 123) rfl (by decide) ?_
          refine j_vret rfl rfl ?_ rfl (Nat.le_refl _)
          exact ⟨rfl, hF46, by rw [pN_f hy35, pIdx_n (by omega) (by omega)]; rw [pApp_err] at hC47; exact hC47⟩
      · rw [e1, e2]
        simp only [Option.toList_some, Option.toList_none, List.cons_append, List.nil_append]
        refine j_if_eq (tgt := 76) rfl (by decide) (by decide) (by decide) (fun _ => ?_) (fun z => absurd z (by decide))
        refine j_aload_n rfl rfl ?_
        refine j_bipush rfl (by decide) ?_
        refine j_callV (ci := 6) rfl okX6_takes c_X6_42 (ct_X6_takes g h hb (b := 116) (by decide)) rfl rfl (g.1.lt (by decide)) (g.1.k (by decide) (by decide)) (by decide) rfl (Nat.le_of_ble_eq_true rfl) (by decide) (by decide) ?_
        rintro vq M50 ht49
        rcases ht49 with ⟨hy51, e1, hF52, hC53⟩ | ⟨hy51, e1, e2⟩
        · rw [e1]
          simp only [Option.toList_some, Option.toList_none, List.cons_append, List.nil_append]
          have hB54 := PB.adv chC_end hb (c := chC m) (r := r) (by omega)
          refine j_if_eq (tgt := 97) rfl (by decide) (by decide) (by decide) (fun z => absurd z (by decide)) (fun _ => ?_)
          refine j_aload_n rfl rfl ?_
          refine j_getR (q := q) rfl f_X6_26 rfl ((hF52.cg g).1.lt (by decide)) ((hF52.cg g).1.k (by decide) (by decide)) (hF52.cg g).2.2.2.1 ?_
          refine j_iconst rfl ?_
          refine j_iconst rfl ?_
          refine j_callV (ci := 5) rfl okX5_append c_X6_87 (ct_X5_append (by omega) (by omega) (by omega) (by omega) (hF52.cg g).2.2.1 (hC53.used hB54 (by omega) (by omega)).1) rfl rfl (hF52.cg g).2.2.1.1 (hF52.cg g).2.2.1.2.1 (by decide) rfl (Nat.le_of_ble_eq_true rfl) (by decide) (by decide) ?_
          rintro vq mq ⟨e1, e2⟩
          have e2 : mq = apM q M50 4 0 := e2
          rw [e1, e2]
          clear e1 e2
          simp only [Option.toList_some, Option.toList_none, List.cons_append, List.nil_append]
          have hC57 : CS q (apM q M50 4 0) (pApp (pAdv r) 4 0) := CS.app hq hC53 hB54 (by omega) 4 0
          have hF56 := apM_fc hF52 4 0
          have hB58 := PB.app hB54 4 0
          generalize apM q M50 4 0 = N55 at hF56 hC57 ⊢
          refine j_goto (tgt := 123) rfl (by decide) ?_
          refine j_vret rfl rfl ?_ rfl (Nat.le_refl _)
          exact ⟨rfl, hF56, by rw [pN_t hy51]; exact hC57⟩
        · rw [e1, e2]
          simp only [Option.toList_some, Option.toList_none, List.cons_append, List.nil_append]
          refine j_if_eq (tgt := 97) rfl (by decide) (by decide) (by decide) (fun _ => ?_) (fun z => absurd z (by decide))
          refine j_aload_n rfl rfl ?_
          refine j_bipush rfl (by decide) ?_
          refine j_callV (ci := 6) rfl okX6_takes c_X6_42 (ct_X6_takes g h hb (b := 101) (by decide)) rfl rfl (g.1.lt (by decide)) (g.1.k (by decide) (by decide)) (by decide) rfl (Nat.le_of_ble_eq_true rfl) (by decide) (by decide) ?_
          rintro vq M60 ht59
          rcases ht59 with ⟨hy61, e1, hF62, hC63⟩ | ⟨hy61, e1, e2⟩
          · rw [e1]
            simp only [Option.toList_some, Option.toList_none, List.cons_append, List.nil_append]
            have hB64 := PB.adv chC_end hb (c := chC m) (r := r) (by omega)
            refine j_if_eq (tgt := 118) rfl (by decide) (by decide) (by decide) (fun z => absurd z (by decide)) (fun _ => ?_)
            refine j_aload_n rfl rfl ?_
            refine j_getR (q := q) rfl f_X6_26 rfl ((hF62.cg g).1.lt (by decide)) ((hF62.cg g).1.k (by decide) (by decide)) (hF62.cg g).2.2.2.1 ?_
            refine j_iconst rfl ?_
            refine j_iconst rfl ?_
            refine j_callV (ci := 5) rfl okX5_append c_X6_87 (ct_X5_append (by omega) (by omega) (by omega) (by omega) (hF62.cg g).2.2.1 (hC63.used hB64 (by omega) (by omega)).1) rfl rfl (hF62.cg g).2.2.1.1 (hF62.cg g).2.2.1.2.1 (by decide) rfl (Nat.le_of_ble_eq_true rfl) (by decide) (by decide) ?_
            rintro vq mq ⟨e1, e2⟩
            have e2 : mq = apM q M60 5 0 := e2
            rw [e1, e2]
            clear e1 e2
            simp only [Option.toList_some, Option.toList_none, List.cons_append, List.nil_append]
            have hC67 : CS q (apM q M60 5 0) (pApp (pAdv r) 5 0) := CS.app hq hC63 hB64 (by omega) 5 0
            have hF66 := apM_fc hF62 5 0
            have hB68 := PB.app hB64 5 0
            generalize apM q M60 5 0 = N65 at hF66 hC67 ⊢
            refine j_goto (tgt := 123) rfl (by decide) ?_
            refine j_vret rfl rfl ?_ rfl (Nat.le_refl _)
            exact ⟨rfl, hF66, by rw [pN_e hy61]; exact hC67⟩
          · rw [e1, e2]
            simp only [Option.toList_some, Option.toList_none, List.cons_append, List.nil_append]
            refine j_if_eq (tgt := 118) rfl (by decide) (by decide) (by decide) (fun _ => ?_) (fun z => absurd z (by decide))
            refine j_aload_n rfl rfl ?_
            refine j_iconst rfl ?_
            refine j_putZ rfl f_X6_22 (by omega) rfl (g.1.lt (by decide)) (g.1.k (by decide) (by decide)) ?_
            refine j_vret rfl rfl ?_ rfl (Nat.le_refl _)
            exact ⟨rfl, (FC.rf q m).one (Or.inr (by omega)) _, by rw [pN_x hy3 hy19 hy35 hy51 hy61]; exact CS.err hq h hb (by omega) (by decide)⟩


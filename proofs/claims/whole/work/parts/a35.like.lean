set_option maxRecDepth 20000 in
set_option maxHeartbeats 4000000 in
theorem lp_like_48 {G : QW} {m N : AM} {k b i : Int} {E : Int × Int} {Rp : Option Vl → AM → Prop} (hnl : 0 ≤ mi m 91 b.toNat ∧ mi m 91 b.toNat ≤ 12) (hb : 0 ≤ b ∧ b ≤ 5) (hi : -1 ≤ i) (hi2 : i < 2147483648) (hfound : E.1 ≠ 0 → Rp (some (vI E.2)) N) (hnone : E.1 = 0 → qJ G mX11_like { frames := 6, cells := 0, slots := 0, locals := 60 * 6 } (qF G Rp 0 0) 91 [(0, vR 0), (1, vI k), (2, vI i), (3, vI E.2), (4, vI b)] [] N 0 0) : ∀ (c : Nat) (l n : Int), l + c = 12 → 0 ≤ l → 0 ≤ n → n ≤ 12 * b + l → n ≤ 1000 → (lkI m k i b (mi m 91 b.toNat - l).toNat l n) = E → qJ G mX11_like { frames := 6, cells := 0, slots := 0, locals := 60 * 6 } (qF G Rp 0 0) 48 [(0, vR 0), (1, vI k), (2, vI i), (3, vI n), (4, vI b), (5, vI (gapX m k b)), (6, vI l)] [] N 0 0 := by
  intro c
  have hgr := gapX_rng m k b
  induction c with
  | zero =>
    intro l n hl hl0 hn0 hn hn9 hE
    have e : (mi m 91 b.toNat - l).toNat = 0 := by omega
    rw [e] at hE
    have e2 : ((0 : Int), n) = E := hE
    refine j_iload rfl rfl ?_
    refine j_bipush rfl (by decide) ?_
    refine j_icmp_ge (tgt := 91) rfl (by decide) (by omega) (by omega) (by omega) (by omega) (fun hb9_1 => ?_) (fun hb9_1 => by exfalso; omega)
    refine j_loc (ls' := [(0, vR 0), (1, vI k), (2, vI i), (3, vI n), (4, vI b)]) rfl ?_
    rw [← e2] at hnone
    exact hnone rfl
  | succ c ih =>
    intro l n hl hl0 hn0 hn hn9 hE
    have hun : l < mi m 91 b.toNat → lkI m k i b (mi m 91 b.toNat - l).toNat l n = if ovF m k b l = 0 then lkI m k i b (mi m 91 b.toNat - (l + 1)).toNat (l + 1) n else if n = i then (1, (100 * b) + l) else lkI m k i b (mi m 91 b.toNat - (l + 1)).toNat (l + 1) (n + 1) := fun q => by
      rw [show (mi m 91 b.toNat - l).toNat = (mi m 91 b.toNat - (l + 1)).toNat + 1 by omega]
      rfl
    have hov : ∀ {x y : Int}, mi m 91 b.toNat ≤ x → lkI m k i b (mi m 91 b.toNat - x).toNat x y = (0, y) := fun {x y} q => by
      rw [show (mi m 91 b.toNat - x).toNat = 0 by omega]
      rfl
    have hbit : (z_iand (z_ishr (gapX m k b) l) 1 = 1 ∧ l < mi m 91 b.toNat ∧ ovF m k b l ≠ 0) ∨ ((z_iand (z_ishr (gapX m k b) l) 1 = 0 ∧ l < mi m 91 b.toNat ∧ ovF m k b l = 0) ∨ (z_iand (z_ishr (gapX m k b) l) 1 = 0 ∧ mi m 91 b.toNat ≤ l)) := by
      obtain ⟨x, rfl⟩ : ∃ x : Nat, l = x := ⟨l.toNat, by omega⟩
      rw [bit_of _ (show x < 32 by omega)]
      unfold gapX
      rw [bt_orL _ _ (by omega) x (by omega)]
      unfold gaF
      by_cases c1 : x < (mi m 91 b.toNat).toNat
      · by_cases c2 : ovF m k b x ≠ 0
        · rw [decide_eq_true (show x < (mi m 91 b.toNat).toNat ∧ ovF m k b x ≠ 0 from ⟨c1, c2⟩)]
          exact Or.inl ⟨rfl, by omega, c2⟩
        · rw [decide_eq_false (fun z => c2 z.2)]
          exact Or.inr (Or.inl ⟨rfl, by omega, by omega⟩)
      · rw [decide_eq_false (fun z => c1 z.1)]
        exact Or.inr (Or.inr ⟨rfl, by omega⟩)
    refine j_iload rfl rfl ?_
    refine j_bipush rfl (by decide) ?_
    refine j_icmp_ge (tgt := 91) rfl (by decide) (by omega) (by omega) (by omega) (by omega) (fun hb52_1 => ?_) (fun hb52_1 => ?_)
    · skip
      exfalso; omega
    · skip
      refine j_iload rfl rfl ?_
      refine j_iload rfl rfl ?_
      refine j_ishr rfl ?_
      have z59_1 := z_ishr_rng (gapX m k b) l
      refine j_iconst rfl ?_
      refine j_iand rfl ?_
      have z61_1 := z_iand_rng (z_ishr (gapX m k b) l) 1
      refine j_if_ne (tgt := 68) rfl (by decide) (by omega) (by omega) (fun hb62_1 => ?_) (fun hb62_1 => ?_)
      · skip
        refine j_iload_n rfl rfl ?_
        refine j_iload_n rfl rfl ?_
        refine j_icmp_ne (tgt := 82) rfl (by decide) (by omega) (by omega) (by omega) (by omega) (fun hb70_1 => ?_) (fun hb70_1 => ?_)
        · skip
          refine j_iinc rfl rfl (by decide) ?_
          refine j_iinc rfl rfl (by decide) ?_
          refine j_goto (tgt := 48) rfl (by decide) ?_
          refine j_loc (ls' := [(0, vR 0), (1, vI k), (2, vI i), (3, vI (n + 1)), (4, vI b), (5, vI (gapX m k b)), (6, vI (l + 1))]) rfl ?_
          rcases hbit with ⟨z1, z2, z3⟩ | z1
          · refine ih (l + 1) (n + 1) (by omega) (by omega) (by omega) (by omega) (by omega) ?_
            rw [hun z2, if_neg z3, if_neg hb70_1] at hE
            exact hE
          · exfalso; omega
        · skip
          refine j_bipush rfl (by decide) ?_
          refine j_iload rfl rfl ?_
          refine j_imul rfl ?_
          refine j_iload rfl rfl ?_
          refine j_iadd rfl ?_
          refine j_iret rfl rfl ?_ rfl (Nat.le_refl _)
          rcases hbit with ⟨z1, z2, z3⟩ | z1
          · rw [hun z2, if_neg z3, if_pos hb70_1] at hE
            rw [← hE] at hfound
            exact hfound (show (1 : Int) ≠ 0 by decide)
          · exfalso; omega
      · skip
        refine j_goto (tgt := 85) rfl (by decide) ?_
        refine j_iinc rfl rfl (by decide) ?_
        refine j_goto (tgt := 48) rfl (by decide) ?_
        refine j_loc (ls' := [(0, vR 0), (1, vI k), (2, vI i), (3, vI n), (4, vI b), (5, vI (gapX m k b)), (6, vI (l + 1))]) rfl ?_
        refine ih (l + 1) n (by omega) (by omega) hn0 (by omega) (by omega) ?_
        rcases hbit with ⟨z1, z2, z3⟩ | z1
        · exact absurd z1 (by omega)
        · rcases z1 with ⟨z0, z1, z2⟩ | ⟨z0, z1⟩
          · rw [hun z1, if_pos z2] at hE
            exact hE
          · rw [hov z1] at hE
            rw [hov (by omega)]
            exact hE

theorem lkO_y {m : AM} {k i : Int} {x : Nat} {b n : Int} (h : (lkI m k i b (mi m 91 b.toNat).toNat 0 n).1 ≠ 0) : lkO m k i (x + 1) b n = lkI m k i b (mi m 91 b.toNat).toNat 0 n := if_pos h
theorem lkO_n {m : AM} {k i : Int} {x : Nat} {b n : Int} (h : (lkI m k i b (mi m 91 b.toNat).toNat 0 n).1 = 0) : lkO m k i (x + 1) b n = lkO m k i x (b + 1) (lkI m k i b (mi m 91 b.toNat).toNat 0 n).2 := if_neg (fun z => z h)

set_option maxRecDepth 20000 in
set_option maxHeartbeats 4000000 in
theorem lp_like_19C {G : QW} {m : AM} {k i : Int} {E : Int × Int} {Rp : Option Vl → AM → Prop} (h : QR m) (h4 : K4 m) (hk : 0 ≤ k ∧ k ≤ 1) (hi : -1 ≤ i) (hi2 : i < 2147483648) (hfound : ∀ N, PSp m N → E.1 ≠ 0 → Rp (some (vI E.2)) N) (hnone : ∀ N, PSp m N → E.1 = 0 → 0 ≤ E.2 → E.2 ≤ 1000 → qJ G mX11_like { frames := 6, cells := 0, slots := 0, locals := 60 * 6 } (qF G Rp 0 0) 97 [(0, vR 0), (1, vI k), (2, vI i), (3, vI E.2)] [] N 0 0) : ∀ (c : Nat) (b n : Int) (N : AM), PSp m N → b + c = mi m 0 16 → 0 ≤ b → (0 ≤ n ∧ n ≤ 12 * b) → lkO m k i c b n = E → qJ G mX11_like { frames := 6, cells := 0, slots := 0, locals := 60 * 6 } (qF G Rp 0 0) 19 [(0, vR 0), (1, vI k), (2, vI i), (3, vI n), (4, vI b)] [] N 0 0 := by
  have h16 := h.i.s 0 16 0 6 (by decide)
  intro c
  induction c with
  | zero =>
    intro b n N hp hb hb0 hn hE
    have hS := hp.st h.s
    have e16 : mi N 0 16 = mi m 0 16 := hp.cel (by omega)
    have e : ((0 : Int), n) = E := hE
    refine j_iload rfl rfl ?_
    refine j_aload_n rfl rfl ?_
    refine j_getI rfl f_X11_113 rfl (hS.lt (by decide)) (hS.k (by decide) (by decide)) ?_
    rw [e16]
    refine j_icmp_ge (tgt := 97) rfl (by decide) (by omega) (by omega) (by omega) (by omega) (fun hb9_1 => ?_) (fun hb9_1 => by exfalso; omega)
    refine j_loc (ls' := [(0, vR 0), (1, vI k), (2, vI i), (3, vI n)]) rfl ?_
    rw [← e] at hnone
    exact hnone N hp rfl (show 0 ≤ n by omega) (show n ≤ 1000 by omega)
  | succ c ih =>
    intro b n N hp hb hb0 hn hE
    have hS := hp.st h.s
    have e16 : mi N 0 16 = mi m 0 16 := hp.cel (by omega)
    have hn0 := hn.1
    have hbb : 0 ≤ b ∧ b < mi m 0 16 := by omega
    have hB := (h.2.1.2 b hb0 (by rw [← h.2.1.1]; exact hbb.2)).1
    have hnl := h.i.a 91 0 12 (by decide) b.toNat
    have hgo := ct_gapsOfC (G := G) (m := N) (k := k) (b := b) (hp.qr h) (hp.k4 h4) hk (by rw [e16]; exact hbb)
    rw [(hp.bxe b).1] at hgo
    have hgx : gapX N k b = gapX m k b := by
      have e : ∀ c, c ≠ 12 → mi N c = mi m c := fun c hc => funext (fun j => hp.cel (fun z => hc z.1))
      have em : ∀ x y, mostX N x y = mostX m x y := fun x y => by
        unfold mostX
        rw [e 94 (by decide), e 88 (by decide)]
        rfl
      have eg : gaF N k b = gaF m k b := by
        funext l
        unfold gaF ovF
        rw [hp.enx, e 93 (by decide), em]
      unfold gapX
      rw [eg, e 91 (by decide)]
    refine j_iload rfl rfl ?_
    refine j_aload_n rfl rfl ?_
    refine j_getI rfl f_X11_113 rfl (hS.lt (by decide)) (hS.k (by decide) (by decide)) ?_
    have u22_1 := mi_rng N 0 16
    rw [e16]
    refine j_icmp_ge (tgt := 97) rfl (by decide) (by omega) (by omega) (by omega) (by omega) (fun hb25_1 => ?_) (fun hb25_1 => ?_)
    · skip
      exfalso; omega
    · skip
      refine j_aload_n rfl rfl ?_
      refine j_getR (q := 12) rfl f_X11_44 rfl (hS.lt (by decide)) (hS.k (by decide) (by decide)) (hS.r (by decide)) ?_
      refine j_iload_n rfl rfl ?_
      refine j_aload_n rfl rfl ?_
      refine j_getR (q := 3) rfl f_X11_18 rfl (hS.lt (by decide)) (hS.k (by decide) (by decide)) (hS.r (by decide)) ?_
      refine j_iload rfl rfl ?_
      refine j_aald (k := 17) (n := 6) (v := (bx m b)) rfl (hS.lt (by decide)) (hS.k (by decide) (by decide)) el17 (hS.n (by decide) (by decide)) (by omega) (by omega) (by decide) (by rw [show mr N = mr m from congrArg (fun q => q.1) hp.1]; exact hB.1.1) ?_
      refine j_callV (ci := 8) rfl okX8_gapsOf c_X11_274 (hgo) rfl rfl (hS.lt (by decide)) (hS.k (by decide) (by decide)) (by decide) rfl (Nat.le_of_ble_eq_true rfl) (by decide) (by decide) ?_
      rintro vq K ⟨hpK, e1⟩
      rw [hgx] at e1
      rw [e1]
      clear e1
      simp only [Option.toList_some, Option.toList_none, List.cons_append, List.nil_append]
      have hp2 := hp.trans hpK
      have hgr := gapX_rng m k b
      refine j_istore rfl (by decide) ?_
      refine j_iconst rfl ?_
      refine j_istore rfl (by decide) ?_
      refine j_loc (ls' := [(0, vR 0), (1, vI k), (2, vI i), (3, vI n), (4, vI b), (5, vI (gapX m k b)), (6, vI 0)]) rfl ?_
      refine lp_like_48 (N := K) (E := lkI m k i b (mi m 91 b.toNat).toNat 0 n) hnl (by omega) hi hi2 (fun q => ?_) (fun q => ?_) 12 0 n (by decide) (by decide) hn0 (by omega) (by omega) (by rw [Int.sub_zero])
      · rw [← hE, lkO_y q] at hfound
        exact hfound K hp2 q
      · have hq := lkI_n _ _ _ q
        refine j_iinc rfl rfl (by decide) ?_
        refine j_goto (tgt := 19) rfl (by decide) ?_
        refine j_loc (ls' := [(0, vR 0), (1, vI k), (2, vI i), (3, vI (lkI m k i b (mi m 91 b.toNat).toNat 0 n).2), (4, vI (b + 1))]) rfl ?_
        exact ih (b + 1) (lkI m k i b (mi m 91 b.toNat).toNat 0 n).2 K hp2 (by omega) (by omega) ⟨by omega, by omega⟩ (by rw [lkO_n q] at hE; exact hE)

set_option maxRecDepth 20000 in
set_option maxHeartbeats 4000000 in
/-- like() of the class -/
theorem cr_like {G : QW} {m : AM} {k i : Int} (h : QR m) (h4 : K4 m) (hk1 : -2147483648 ≤ k) (hk2 : k < 2147483648) (hi1 : -2147483648 ≤ i) (hi2 : i < 2147483648) : qM G mX11_like 6 0 0 [vR 0, vI k, vI i] m (fun r N2 => PSp m N2 ∧ r = some (vI (likR m k i))) := by
  have hS := h.s
  have hI := h.i
  have h16 := hI.s 0 16 0 6 (by decide)
  have h16e : mi m 0 16 = mi m 86 1 := h.2.1.1
  refine qM.intro okX11_like (Nat.le_of_ble_eq_true rfl) ?_
  refine j_iload_n rfl rfl ?_
  refine j_callS (As := [_]) rfl okX11_isMachine c_X11_229 (ct_X11_isMachine (by omega) (by omega)) rfl rfl (Nat.le_of_ble_eq_true rfl) (by decide) (by decide) ?_
  rintro vq mq ⟨e1, e2⟩
  rw [e1, e2]
  clear e1 e2
  simp only [Option.toList_some, Option.toList_none, List.cons_append, List.nil_append]
  refine j_bif_eq (tgt := 12) rfl (by decide) (fun hb4_1 => ?_) (fun hb4_1 => ?_)
  · skip
    refine j_iconst rfl ?_
    refine j_iret rfl rfl ?_ rfl (Nat.le_refl _)
    refine ⟨PSp.rf m, ?_⟩
    unfold likR
    rw [if_neg (fun z => hb4_1 z.1)]
  · skip
    refine j_iload_n rfl rfl ?_
    refine j_iconst rfl ?_
    refine j_icmp_ge (tgt := 14) rfl (by decide) (by omega) (by omega) (by omega) (by omega) (fun hb9_1 => ?_) (fun hb9_1 => ?_)
    · skip
      refine j_iconst rfl ?_
      refine j_istore_n rfl (by decide) ?_
      refine j_iconst rfl ?_
      refine j_istore rfl (by decide) ?_
      refine j_loc (ls' := [(0, vR 0), (1, vI k), (2, vI i), (3, vI 0), (4, vI 0)]) rfl ?_
      refine lp_like_19C (E := lkO m k i (mi m 86 1).toNat 0 0) h h4 hb4_1 (by omega) (by omega) (fun N hp q => ?_) (fun N hp q q1 q2 => ?_) (mi m 86 1).toNat 0 0 m (PSp.rf m) (by omega) (by decide) (by decide) rfl
      · refine ⟨hp, ?_⟩
        unfold likR
        rw [if_pos ⟨hb4_1, by omega⟩, if_pos q]
      · skip
        refine j_iload_n rfl rfl ?_
        refine j_iconst rfl ?_
        refine j_icmp_ne (tgt := 106) rfl (by decide) (by omega) (by omega) (by omega) (by omega) (fun hb99_1 => ?_) (fun hb99_1 => ?_)
        · skip
          refine j_iconst rfl ?_
          refine j_iret rfl rfl ?_ rfl (Nat.le_refl _)
          refine ⟨hp, ?_⟩
          unfold likR
          rw [if_pos ⟨hb4_1, by omega⟩, if_neg (fun z => z q), if_neg (by omega)]
        · skip
          refine j_iload_n rfl rfl ?_
          refine j_goto (tgt := 107) rfl (by decide) ?_
          refine j_iret rfl rfl ?_ rfl (Nat.le_refl _)
          refine ⟨hp, ?_⟩
          unfold likR
          rw [if_pos ⟨hb4_1, by omega⟩, if_neg (fun z => z q), if_pos (by omega)]
    · skip
      refine j_iconst rfl ?_
      refine j_iret rfl rfl ?_ rfl (Nat.le_refl _)
      refine ⟨PSp.rf m, ?_⟩
      unfold likR
      rw [if_neg (fun z => by have := z.2; omega)]


/-! watch: both sides write the same -/
theorem wat_bit {x is : Int} {n k : Nat} (hn : n < 12) (hk : k < 12) (hi : is = 0 ∨ is = 1) : z_iand (z_ishr (z_ior (z_iand x (z_ixor (z_ishl 1 n) (-1))) (z_ishl is n)) k) 1 = if k = n then is else z_iand (z_ishr x k) 1 := by
  have e0 : ∀ n : Fin 12, z_ishl 0 ((n : Nat) : Int) = 0 := by decide +kernel
  have e1 : z_ishl 0 (n : Int) = 0 := e0 ⟨n, hn⟩
  rw [bit_of _ (show k < 32 by omega), bit_of _ (show k < 32 by omega), bt_or, bt_and, bt_not _ (show k < 32 by omega), bt_shl (show n < 32 by omega) (show k < 32 by omega)]
  rcases hi with rfl | rfl
  · rw [e1, bt_0]
    by_cases y : k = n
    · simp [y]
    · simp [y]
  · rw [bt_shl (show n < 32 by omega) (show k < 32 by omega)]
    by_cases y : k = n
    · simp [y]
    · simp [y]
theorem key_watch {m : AM} (h : Inv m) (b l v : Int) : KeyP (FX11_watch m b l v) (fun N => FX12_watch N b l v) := by
  have e16 : mi m 0 16 = mi m 86 1 := h.1.2.1.1
  have h16 := h.i.s 0 16 0 6 (by decide)
  by_cases hb : 0 ≤ b ∧ b < mi m 0 16
  · have K := h.1.2.1.2 b hb.1 (by rw [← e16]; exact hb.2)
    have nl : mi m (pg m b) 6 = mi m 91 b.toNat := K.1.2.2.2.2.2.2.1
    have i91 := h.i.a 91 0 12 (by decide) b.toNat
    by_cases g : (0 ≤ l ∧ l < mi m 91 b.toNat) ∧ 0 ≤ v ∧ v ≤ 1
    · have k0 := h.k0
      have B := (k0.1 b hb.1 hb.2).1
      have pr := K.1.2.1.2
      have pb := k0.pb hb hb
      have km := h.kz.2 b hb.1 hb.2
      have i93 := h.i.a 93 0 1 (by decide) ((12 * b) + l).toNat
      have wb := K.1.wb hb.1 g.1.1 g.1.2
      obtain ⟨X, hX⟩ : ∃ X, z_ior (z_iand (mi m (pg m b) 8) (z_ixor (z_ishl 1 l) (-1))) (z_ishl v l) = X := ⟨_, rfl⟩
      have hXr : -2147483648 ≤ X ∧ X < 2147483648 := by rw [← hX]; exact z_ior_rng _ _
      have hXb : ∀ y : Int, 0 ≤ y → y < mi m 91 b.toNat → z_iand (z_ishr X y) 1 = if y = l then v else z_iand (z_ishr (mi m (pg m b) 8) y) 1 := fun y y0 y1 => by
        obtain ⟨n, rfl⟩ := Int.eq_ofNat_of_zero_le g.1.1
        obtain ⟨c, rfl⟩ := Int.eq_ofNat_of_zero_le y0
        have q := wat_bit (x := mi m (pg m b) 8) (is := v) (n := n) (k := c) (by omega) (by omega) (by omega)
        rw [← hX, q]
        by_cases z : c = n
        · rw [if_pos z, if_pos (by omega)]
        · rw [if_neg z, if_neg (by omega)]
      have f1 : FX11_watch m b l v = (if mi m 93 ((12 * b) + l).toNat ≠ 0 then 1 else 0, si m (pg m b) 8 X) := by
        unfold FX11_watch
        rw [nl, if_pos ⟨hb, g.1⟩, if_neg (by omega), if_pos g.2.2, hX, wb]
      have f2 : ∀ N, mi N 86 1 = mi m 86 1 → mi N 91 b.toNat = mi m 91 b.toNat → mi N 93 ((12 * b) + l).toNat = mi m 93 ((12 * b) + l).toNat → FX12_watch N b l v = (if mi m 93 ((12 * b) + l).toNat ≠ 0 then 1 else 0, si N 93 ((12 * b) + l).toNat v) := fun N eN eL e93 => by
        unfold FX12_watch
        rw [eN, eL, e93, if_pos ⟨⟨hb.1, by omega⟩, g.1⟩, if_pos g.2]
        have g2 := g.2
        clear hXb hX f1
        rcases (by omega : v = 0 ∨ v = 1) with rfl | rfl
        · (repeat' split) <;> first | rfl | (exfalso; omega)
        · (repeat' split) <;> first | rfl | (exfalso; omega)
      clear hX
      obtain ⟨k, hk⟩ : ∃ k : Nat, ((12 * b) + l).toNat = k := ⟨_, rfl⟩
      have hkt : (k : Int) = 12 * b + l := by omega
      rw [hk] at f2 f1
      rw [f1]
      unfold KeyP
      generalize hA : si m (pg m b) 8 X = A
      have wA : ∀ p j, ¬ (p = pg m b ∧ j = 8) → mi A p j = mi m p j := fun p j q => by rw [← hA, mi_si_ne _ _ q]
      have vA : mi A (pg m b) 8 = X := by rw [← hA, mi_si_same _ _ _ hXr.1 hXr.2]
      have zA : A.2 = m.2 := by rw [← hA]; rfl
      clear hA
      have iA : IM A := h.i.h62 (fun p j hp hq => wA p j (by omega))
      show St A ∧ IM A ∧ (if mi m 93 k ≠ 0 then 1 else 0 : Int) = (FX12_watch A b l v).1 ∧ Inv (FX12_watch A b l v).2
      rw [f2 A (wA _ _ (by omega)) (wA _ _ (by omega)) (wA _ _ (by omega))]
      refine ⟨shc_st h.s (congrArg (fun q => q.2) zA), iA, rfl, ?_⟩
      show Inv (si A 93 k v)
      have iN : IM (si A 93 k v) := iA.cell 0 1 (fun q hq e _ => by revert q; decide) (by decide) (by omega) (by omega) (by decide) (by decide) (by intro j hj; omega) (by decide)
      generalize hN : si A 93 k v = N at iN
      have wN0 : ∀ p j, ¬ (p = 93 ∧ j = k) → mi N p j = mi A p j := fun p j q => by rw [← hN, mi_si_ne _ _ q]
      have vN : mi N 93 k = v := by rw [← hN, mi_si_same _ _ _ (by omega) (by omega)]
      have zN : N.2 = m.2 := by rw [← hN]; exact zA
      clear hN
      have P4 : N.2.2 = m.2.2 := congrArg (fun q => q.2) zN
      have eml : ∀ c j, ml N c j = ml m c j := fun c j => congrArg (fun q : (Nat → Nat → Int) × _ => (zl (q.1 c j)).toInt) zN
      have ew : ∀ p j, ¬ (p = pg m b ∧ j = 8) → ¬ (p = 93 ∧ j = k) → mi N p j = mi m p j := fun p j q1 q2 => by rw [wN0 _ _ q2, wA _ _ q1]
      have vb : mi N (pg m b) 8 = X := by rw [wN0 _ _ (by omega), vA]
      have km' : ∀ r : Nat, r < 8 → mi N (bx m b + 1) r = mi N 88 ((8 * b) + r).toNat := fun r hr => by
        rw [ew _ _ (by omega) (by omega), ew _ _ (by omega) (by omega)]; exact km r hr
      refine h.bx1 hb P4 (fun c j p1 p2 p3 => ew _ _ (by omega) (by omega)) eml (fun j hj => ew _ _ (by omega) (by omega)) (fun j _ => ew _ _ (by omega) (by omega)) (fun j _ => ew _ _ (by omega) (by omega)) (fun j _ => ew _ _ (by omega) (by omega)) iN (fun j => by rw [ew _ _ (by omega) (by omega)]; exact h.w89 j) (fun j => Or.inl (ew _ _ (by omega) (by omega))) ?_ ?_ km'
      · refine K.1.w1 hb.1 P4 ⟨ew _ _ (by omega) (by omega), ew _ _ (by omega) (by omega)⟩ (fun c j p1 p2 p3 => ew _ _ p3 (by omega)) (fun o ho j => ?_) (fun j => ?_) (fun x i0 i1 => ?_) km' (fun y l0 l1 => ?_)
        · have := (by decide : ∀ o ∈ ([87, 91, 92, 94, 95, 96, 97, 98, 99] : List Nat), 87 ≤ o ∧ o < 145 ∧ o ≠ 93) o ho
          exact ew _ _ (by omega) (by omega)
        · rw [ew _ _ (by omega) (by omega)]
          exact K.1.2.2.2.1 j
        · rw [ew _ _ (by omega) (by omega), ew _ _ (by omega) (by omega)]
          exact K.1.2.2.2.2.1 x i0 i1
        · rw [vb, hXb y l0 l1]
          by_cases z : y = l
          · rw [if_pos z, z, hk, vN]
            by_cases z2 : v = 0
            · rw [if_neg (by omega), z2]
            · rw [if_pos z2]; omega
          · rw [if_neg z, ew 93 _ (by omega) (by omega)]
            exact K.1.wb hb.1 l0 l1
      · rw [ew _ _ (by omega) (by omega), ew _ _ (by omega) (by omega)]
        exact K.2
    · refine keyP_no h (v := -1) ?_ ?_
      · unfold FX11_watch
        rw [nl]
        (repeat' split) <;> first | rfl | (exfalso; omega)
      · show FX12_watch m b l v = _
        unfold FX12_watch
        (repeat' split) <;> first | rfl | (exfalso; omega)
  · refine keyP_no h (v := -1) ?_ ?_
    · unfold FX11_watch
      rw [if_neg (fun q => hb q.1)]
    · show FX12_watch m b l v = _
      unfold FX12_watch
      rw [if_neg (fun q => hb ⟨q.1.1, by omega⟩)]
theorem ag_watch {G : QW} {m : AM} {b l v : Int} (h : Inv m) (hb1 : -2147483648 ≤ b) (hb2 : b < 2147483648) (hl1 : -2147483648 ≤ l) (hl2 : l < 2147483648) (hv1 : -2147483648 ≤ v) (hv2 : v < 2147483648) : AG G mX11_watch mX12_watch 2 3 0 0 [vI b, vI l, vI v] m :=
  AG.key (g := fun N => FX12_watch N b l v) (ct_X11_watch h.s h.i hb1 hb2 hl1 hl2 hv1 hv2 h.1.hx) (fun a c => ct_X12_watch a c hb1 hb2 hl1 hl2 hv1 hv2) (key_watch h b l v)

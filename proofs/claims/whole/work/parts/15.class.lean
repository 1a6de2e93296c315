def FX11_bits (m : AM) (box : Int) (slot : Int) (b : Int) : Int × AM :=
  if 0 ≤ box ∧ box < mi m 0 16 then
    if slot < 0 then
      ((-1), m)
    else
      if slot ≥ 8 then
        ((-1), m)
      else
        if b < 2 then
          ((-1), m)
        else
          if b ≤ 20 then
            (mi m ((bx m box) + 1) slot.toNat, (si m ((bx m box) + 1) slot.toNat b))
          else
            ((-1), m)
  else
    ((-1), m)
set_option maxRecDepth 20000 in
set_option maxHeartbeats 4000000 in
theorem ct_X11_bits {G : QW} {m : AM} (hS : St m) {box : Int} {slot : Int} {b : Int} (hbox1 : -2147483648 ≤ box) (hbox2 : box < 2147483648) (hslot1 : -2147483648 ≤ slot) (hslot2 : slot < 2147483648) (hb1 : -2147483648 ≤ b) (hb2 : b < 2147483648) (h3 : 0 ≤ mi m 0 16) (h4 : mi m 0 16 ≤ 6) (hX : HX m) : qM G mX11_bits 1 0 0 [vR 0, vI box, vI slot, vI b] m (fun r m' => r = some (vI (FX11_bits m box slot b).1) ∧ m' = (FX11_bits m box slot b).2) := by
  refine qM.intro okX11_bits (Nat.le_of_ble_eq_true rfl) ?_
  refine j_aload_n rfl rfl ?_
  refine j_iload_n rfl rfl ?_
  refine j_callV (ci := 11) rfl okX11_isBox c_X11_119 (ct_X11_isBox hS (by omega) (by omega) (by omega) (by omega)) rfl rfl (hS.lt (by decide)) (hS.k (by decide) (by decide)) (by decide) rfl (by decide) (by decide) (by decide) ?_
  rintro v m1 ⟨e1, e2⟩
  rw [e1, e2]
  clear e1 e2
  simp only [Option.toList_some, Option.toList_none, List.cons_append, List.nil_append]
  refine j_bif_eq (tgt := 29) rfl (by decide) (fun hb5_1 => ?_) (fun hb5_1 => ?_)
  · skip
    refine j_iconst rfl ?_
    refine j_iret rfl rfl ?_ rfl (Nat.le_refl _)
    unfold FX11_bits
    rw [if_neg hb5_1]
    exact ⟨rfl, rfl⟩
  · skip
    refine j_iload_n rfl rfl ?_
    refine j_if_lt (tgt := 29) rfl (by decide) (by omega) (by omega) (fun hb9_1 => ?_) (fun hb9_1 => ?_)
    · skip
      refine j_iconst rfl ?_
      refine j_iret rfl rfl ?_ rfl (Nat.le_refl _)
      unfold FX11_bits
      rw [if_pos hb5_1, if_pos hb9_1]
      exact ⟨rfl, rfl⟩
    · skip
      refine j_iload_n rfl rfl ?_
      refine j_bipush rfl (by decide) ?_
      refine j_icmp_ge (tgt := 29) rfl (by decide) (by omega) (by omega) (by omega) (by omega) (fun hb15_1 => ?_) (fun hb15_1 => ?_)
      · skip
        refine j_iconst rfl ?_
        refine j_iret rfl rfl ?_ rfl (Nat.le_refl _)
        unfold FX11_bits
        rw [if_pos hb5_1, if_neg hb9_1, if_pos hb15_1]
        exact ⟨rfl, rfl⟩
      · skip
        refine j_iload_n rfl rfl ?_
        refine j_iconst rfl ?_
        refine j_icmp_lt (tgt := 29) rfl (by decide) (by omega) (by omega) (by omega) (by omega) (fun hb20_1 => ?_) (fun hb20_1 => ?_)
        · skip
          refine j_iconst rfl ?_
          refine j_iret rfl rfl ?_ rfl (Nat.le_refl _)
          unfold FX11_bits
          rw [if_pos hb5_1, if_neg hb9_1, if_neg hb15_1, if_pos hb20_1]
          exact ⟨rfl, rfl⟩
        · skip
          refine j_iload_n rfl rfl ?_
          refine j_bipush rfl (by decide) ?_
          refine j_icmp_le (tgt := 31) rfl (by decide) (by omega) (by omega) (by omega) (by omega) (fun hb26_1 => ?_) (fun hb26_1 => ?_)
          · skip
            refine j_aload_n rfl rfl ?_
            refine j_getR (q := 3) rfl f_X11_18 rfl (hS.lt (by decide)) (hS.k (by decide) (by decide)) (hS.r (by decide)) ?_
            refine j_iload_n rfl rfl ?_
            have hq1 := hX box (by omega) (by omega)
            refine j_aald (k := 17) (n := 6) (v := (bx m box)) rfl (hS.lt (by decide)) (hS.k (by decide) (by decide)) el17 (hS.n (by decide) (by decide)) (by omega) (by omega) (by decide) hq1.1 ?_
            refine j_getR (q := ((bx m box) + 1)) rfl f_X11_133 rfl hq1.2.1.1 hq1.2.1.2.1 (hq1.2.1.q 2 1 13 8 (by decide)).1 ?_
            refine j_iload_n rfl rfl ?_
            refine j_iald (n := 8) rfl (hq1.2.1.q 2 1 13 8 (by decide)).2.1 (hq1.2.1.q 2 1 13 8 (by decide)).2.2.1 (hq1.2.1.q 2 1 13 8 (by decide)).2.2.2 (by omega) (by omega) (by decide) ?_
            have u41_1 := mi_rng m ((bx m box) + 1) slot.toNat
            refine j_istore rfl (by decide) ?_
            refine j_aload_n rfl rfl ?_
            refine j_getR (q := 3) rfl f_X11_18 rfl (hS.lt (by decide)) (hS.k (by decide) (by decide)) (hS.r (by decide)) ?_
            refine j_iload_n rfl rfl ?_
            have hq2 := hX box (by omega) (by omega)
            refine j_aald (k := 17) (n := 6) (v := (bx m box)) rfl (hS.lt (by decide)) (hS.k (by decide) (by decide)) el17 (hS.n (by decide) (by decide)) (by omega) (by omega) (by decide) hq2.1 ?_
            refine j_getR (q := ((bx m box) + 1)) rfl f_X11_133 rfl hq2.2.1.1 hq2.2.1.2.1 (hq2.2.1.q 2 1 13 8 (by decide)).1 ?_
            refine j_iload_n rfl rfl ?_
            refine j_iload_n rfl rfl ?_
            refine j_iast (n := 8) rfl (hq2.2.1.q 2 1 13 8 (by decide)).2.1 (hq2.2.1.q 2 1 13 8 (by decide)).2.2.1 (hq2.2.1.q 2 1 13 8 (by decide)).2.2.2 (by omega) (by omega) (by decide) ?_
            refine j_iload rfl rfl ?_
            refine j_iret rfl rfl ?_ rfl (Nat.le_refl _)
            unfold FX11_bits
            rw [if_pos hb5_1, if_neg hb9_1, if_neg hb15_1, if_neg hb20_1, if_pos hb26_1]
            exact ⟨rfl, rfl⟩
          · skip
            refine j_iconst rfl ?_
            refine j_iret rfl rfl ?_ rfl (Nat.le_refl _)
            unfold FX11_bits
            rw [if_pos hb5_1, if_neg hb9_1, if_neg hb15_1, if_neg hb20_1, if_neg hb26_1]
            exact ⟨rfl, rfl⟩

def FX11_wire (m : AM) (box : Int) (input : Int) (fr0 : Int) (port : Int) : Int × AM :=
  if 0 ≤ box ∧ box < mi m 0 16 then
    if input < 0 then
      ((-2000000000), m)
    else
      if input < 4 then
        if fr0 = (-1) then
          if fr0 ≠ (-1) then
            (mi m ((bx m box) + 2) input.toNat, (si m ((bx m box) + 2) input.toNat ((10 * fr0) + port)))
          else
            (mi m ((bx m box) + 2) input.toNat, (si m ((bx m box) + 2) input.toNat (-1)))
        else
          if 0 ≤ fr0 ∧ fr0 < mi m 0 16 then
            if port < 0 then
              ((-2000000000), m)
            else
              if port < 4 then
                if fr0 ≠ (-1) then
                  (mi m ((bx m box) + 2) input.toNat, (si m ((bx m box) + 2) input.toNat ((10 * fr0) + port)))
                else
                  (mi m ((bx m box) + 2) input.toNat, (si m ((bx m box) + 2) input.toNat (-1)))
              else
                ((-2000000000), m)
          else
            ((-2000000000), m)
      else
        ((-2000000000), m)
  else
    ((-2000000000), m)
set_option maxRecDepth 20000 in
set_option maxHeartbeats 4000000 in
theorem ct_X11_wire {G : QW} {m : AM} (hS : St m) {box : Int} {input : Int} {fr0 : Int} {port : Int} (hbox1 : -2147483648 ≤ box) (hbox2 : box < 2147483648) (hinput1 : -2147483648 ≤ input) (hinput2 : input < 2147483648) (hfr01 : -2147483648 ≤ fr0) (hfr02 : fr0 < 2147483648) (hport1 : -2147483648 ≤ port) (hport2 : port < 2147483648) (h3 : 0 ≤ mi m 0 16) (h4 : mi m 0 16 ≤ 6) (hX : HX m) : qM G mX11_wire 1 0 0 [vR 0, vI box, vI input, vI fr0, vI port] m (fun r m' => r = some (vI (FX11_wire m box input fr0 port).1) ∧ m' = (FX11_wire m box input fr0 port).2) := by
  refine qM.intro okX11_wire (Nat.le_of_ble_eq_true rfl) ?_
  refine j_aload_n rfl rfl ?_
  refine j_iload_n rfl rfl ?_
  refine j_callV (ci := 11) rfl okX11_isBox c_X11_119 (ct_X11_isBox hS (by omega) (by omega) (by omega) (by omega)) rfl rfl (hS.lt (by decide)) (hS.k (by decide) (by decide)) (by decide) rfl (by decide) (by decide) (by decide) ?_
  rintro v m1 ⟨e1, e2⟩
  rw [e1, e2]
  clear e1 e2
  simp only [Option.toList_some, Option.toList_none, List.cons_append, List.nil_append]
  refine j_bif_eq (tgt := 17) rfl (by decide) (fun hb5_1 => ?_) (fun hb5_1 => ?_)
  · skip
    refine j_ldc (v := -2000000000) rfl k_X11_136 ?_
    refine j_iret rfl rfl ?_ rfl (Nat.le_refl _)
    unfold FX11_wire
    rw [if_neg hb5_1]
    exact ⟨rfl, rfl⟩
  · skip
    refine j_iload_n rfl rfl ?_
    refine j_if_lt (tgt := 17) rfl (by decide) (by omega) (by omega) (fun hb9_1 => ?_) (fun hb9_1 => ?_)
    · skip
      refine j_ldc (v := -2000000000) rfl k_X11_136 ?_
      refine j_iret rfl rfl ?_ rfl (Nat.le_refl _)
      unfold FX11_wire
      rw [if_pos hb5_1, if_pos hb9_1]
      exact ⟨rfl, rfl⟩
    · skip
      refine j_iload_n rfl rfl ?_
      refine j_iconst rfl ?_
      refine j_icmp_lt (tgt := 20) rfl (by decide) (by omega) (by omega) (by omega) (by omega) (fun hb14_1 => ?_) (fun hb14_1 => ?_)
      · skip
        refine j_iload_n rfl rfl ?_
        refine j_iconst rfl ?_
        refine j_icmp_eq (tgt := 47) rfl (by decide) (by omega) (by omega) (by omega) (by omega) (fun hb22_1 => ?_) (fun hb22_1 => ?_)
        · skip
          refine j_aload_n rfl rfl ?_
          refine j_getR (q := 3) rfl f_X11_18 rfl (hS.lt (by decide)) (hS.k (by decide) (by decide)) (hS.r (by decide)) ?_
          refine j_iload_n rfl rfl ?_
          have hq1 := hX box (by omega) (by omega)
          refine j_aald (k := 17) (n := 6) (v := (bx m box)) rfl (hS.lt (by decide)) (hS.k (by decide) (by decide)) el17 (hS.n (by decide) (by decide)) (by omega) (by omega) (by decide) hq1.1 ?_
          refine j_getR (q := ((bx m box) + 2)) rfl f_X11_137 rfl hq1.2.1.1 hq1.2.1.2.1 (hq1.2.1.q 3 2 13 4 (by decide)).1 ?_
          refine j_iload_n rfl rfl ?_
          refine j_iald (n := 4) rfl (hq1.2.1.q 3 2 13 4 (by decide)).2.1 (hq1.2.1.q 3 2 13 4 (by decide)).2.2.1 (hq1.2.1.q 3 2 13 4 (by decide)).2.2.2 (by omega) (by omega) (by decide) ?_
          have u57_1 := mi_rng m ((bx m box) + 2) input.toNat
          refine j_istore rfl (by decide) ?_
          refine j_aload_n rfl rfl ?_
          refine j_getR (q := 3) rfl f_X11_18 rfl (hS.lt (by decide)) (hS.k (by decide) (by decide)) (hS.r (by decide)) ?_
          refine j_iload_n rfl rfl ?_
          have hq2 := hX box (by omega) (by omega)
          refine j_aald (k := 17) (n := 6) (v := (bx m box)) rfl (hS.lt (by decide)) (hS.k (by decide) (by decide)) el17 (hS.n (by decide) (by decide)) (by omega) (by omega) (by decide) hq2.1 ?_
          refine j_getR (q := ((bx m box) + 2)) rfl f_X11_137 rfl hq2.2.1.1 hq2.2.1.2.1 (hq2.2.1.q 3 2 13 4 (by decide)).1 ?_
          refine j_iload_n rfl rfl ?_
          refine j_iload_n rfl rfl ?_
          refine j_iconst rfl ?_
          refine j_icmp_ne (tgt := 79) rfl (by decide) (by omega) (by omega) (by omega) (by omega) (fun hb72_1 => ?_) (fun hb72_1 => ?_)
          · skip
            refine j_bipush rfl (by decide) ?_
            refine j_iload_n rfl rfl ?_
            refine j_imul rfl ?_
            refine j_iload rfl rfl ?_
            refine j_iadd rfl ?_
            refine j_iast (n := 4) rfl (hq2.2.1.q 3 2 13 4 (by decide)).2.1 (hq2.2.1.q 3 2 13 4 (by decide)).2.2.1 (hq2.2.1.q 3 2 13 4 (by decide)).2.2.2 (by omega) (by omega) (by decide) ?_
            refine j_iload rfl rfl ?_
            refine j_iret rfl rfl ?_ rfl (Nat.le_refl _)
            unfold FX11_wire
            rw [if_pos hb5_1, if_neg hb9_1, if_pos hb14_1, if_pos hb22_1, if_pos hb72_1]
            exact ⟨rfl, rfl⟩
          · skip
            refine j_iconst rfl ?_
            refine j_goto (tgt := 86) rfl (by decide) ?_
            refine j_iast (n := 4) rfl (hq2.2.1.q 3 2 13 4 (by decide)).2.1 (hq2.2.1.q 3 2 13 4 (by decide)).2.2.1 (hq2.2.1.q 3 2 13 4 (by decide)).2.2.2 (by omega) (by omega) (by decide) ?_
            refine j_iload rfl rfl ?_
            refine j_iret rfl rfl ?_ rfl (Nat.le_refl _)
            unfold FX11_wire
            rw [if_pos hb5_1, if_neg hb9_1, if_pos hb14_1, if_pos hb22_1, if_neg (not_not_intro hb72_1)]
            exact ⟨rfl, rfl⟩
        · skip
          refine j_aload_n rfl rfl ?_
          refine j_iload_n rfl rfl ?_
          refine j_callV (ci := 11) rfl okX11_isBox c_X11_119 (ct_X11_isBox hS (by omega) (by omega) (by omega) (by omega)) rfl rfl (hS.lt (by decide)) (hS.k (by decide) (by decide)) (by decide) rfl (by decide) (by decide) (by decide) ?_
          rintro v m1 ⟨e1, e2⟩
          rw [e1, e2]
          clear e1 e2
          simp only [Option.toList_some, Option.toList_none, List.cons_append, List.nil_append]
          refine j_bif_eq (tgt := 44) rfl (by decide) (fun hb30_1 => ?_) (fun hb30_1 => ?_)
          · skip
            refine j_ldc (v := -2000000000) rfl k_X11_136 ?_
            refine j_iret rfl rfl ?_ rfl (Nat.le_refl _)
            unfold FX11_wire
            rw [if_pos hb5_1, if_neg hb9_1, if_pos hb14_1, if_neg hb22_1, if_neg hb30_1]
            exact ⟨rfl, rfl⟩
          · skip
            refine j_iload rfl rfl ?_
            refine j_if_lt (tgt := 44) rfl (by decide) (by omega) (by omega) (fun hb35_1 => ?_) (fun hb35_1 => ?_)
            · skip
              refine j_ldc (v := -2000000000) rfl k_X11_136 ?_
              refine j_iret rfl rfl ?_ rfl (Nat.le_refl _)
              unfold FX11_wire
              rw [if_pos hb5_1, if_neg hb9_1, if_pos hb14_1, if_neg hb22_1, if_pos hb30_1, if_pos hb35_1]
              exact ⟨rfl, rfl⟩
            · skip
              refine j_iload rfl rfl ?_
              refine j_iconst rfl ?_
              refine j_icmp_lt (tgt := 47) rfl (by decide) (by omega) (by omega) (by omega) (by omega) (fun hb41_1 => ?_) (fun hb41_1 => ?_)
              · skip
                refine j_aload_n rfl rfl ?_
                refine j_getR (q := 3) rfl f_X11_18 rfl (hS.lt (by decide)) (hS.k (by decide) (by decide)) (hS.r (by decide)) ?_
                refine j_iload_n rfl rfl ?_
                have hq3 := hX box (by omega) (by omega)
                refine j_aald (k := 17) (n := 6) (v := (bx m box)) rfl (hS.lt (by decide)) (hS.k (by decide) (by decide)) el17 (hS.n (by decide) (by decide)) (by omega) (by omega) (by decide) hq3.1 ?_
                refine j_getR (q := ((bx m box) + 2)) rfl f_X11_137 rfl hq3.2.1.1 hq3.2.1.2.1 (hq3.2.1.q 3 2 13 4 (by decide)).1 ?_
                refine j_iload_n rfl rfl ?_
                refine j_iald (n := 4) rfl (hq3.2.1.q 3 2 13 4 (by decide)).2.1 (hq3.2.1.q 3 2 13 4 (by decide)).2.2.1 (hq3.2.1.q 3 2 13 4 (by decide)).2.2.2 (by omega) (by omega) (by decide) ?_
                have u57_2 := mi_rng m ((bx m box) + 2) input.toNat
                refine j_istore rfl (by decide) ?_
                refine j_aload_n rfl rfl ?_
                refine j_getR (q := 3) rfl f_X11_18 rfl (hS.lt (by decide)) (hS.k (by decide) (by decide)) (hS.r (by decide)) ?_
                refine j_iload_n rfl rfl ?_
                have hq4 := hX box (by omega) (by omega)
                refine j_aald (k := 17) (n := 6) (v := (bx m box)) rfl (hS.lt (by decide)) (hS.k (by decide) (by decide)) el17 (hS.n (by decide) (by decide)) (by omega) (by omega) (by decide) hq4.1 ?_
                refine j_getR (q := ((bx m box) + 2)) rfl f_X11_137 rfl hq4.2.1.1 hq4.2.1.2.1 (hq4.2.1.q 3 2 13 4 (by decide)).1 ?_
                refine j_iload_n rfl rfl ?_
                refine j_iload_n rfl rfl ?_
                refine j_iconst rfl ?_
                refine j_icmp_ne (tgt := 79) rfl (by decide) (by omega) (by omega) (by omega) (by omega) (fun hb72_2 => ?_) (fun hb72_2 => ?_)
                · skip
                  refine j_bipush rfl (by decide) ?_
                  refine j_iload_n rfl rfl ?_
                  refine j_imul rfl ?_
                  refine j_iload rfl rfl ?_
                  refine j_iadd rfl ?_
                  refine j_iast (n := 4) rfl (hq4.2.1.q 3 2 13 4 (by decide)).2.1 (hq4.2.1.q 3 2 13 4 (by decide)).2.2.1 (hq4.2.1.q 3 2 13 4 (by decide)).2.2.2 (by omega) (by omega) (by decide) ?_
                  refine j_iload rfl rfl ?_
                  refine j_iret rfl rfl ?_ rfl (Nat.le_refl _)
                  unfold FX11_wire
                  rw [if_pos hb5_1, if_neg hb9_1, if_pos hb14_1, if_neg hb22_1, if_pos hb30_1, if_neg hb35_1, if_pos hb41_1, if_pos hb72_2]
                  exact ⟨rfl, rfl⟩
                · skip
                  refine j_iconst rfl ?_
                  refine j_goto (tgt := 86) rfl (by decide) ?_
                  refine j_iast (n := 4) rfl (hq4.2.1.q 3 2 13 4 (by decide)).2.1 (hq4.2.1.q 3 2 13 4 (by decide)).2.2.1 (hq4.2.1.q 3 2 13 4 (by decide)).2.2.2 (by omega) (by omega) (by decide) ?_
                  refine j_iload rfl rfl ?_
                  refine j_iret rfl rfl ?_ rfl (Nat.le_refl _)
                  unfold FX11_wire
                  rw [if_pos hb5_1, if_neg hb9_1, if_pos hb14_1, if_neg hb22_1, if_pos hb30_1, if_neg hb35_1, if_pos hb41_1, if_neg (not_not_intro hb72_2)]
                  exact ⟨rfl, rfl⟩
              · skip
                refine j_ldc (v := -2000000000) rfl k_X11_136 ?_
                refine j_iret rfl rfl ?_ rfl (Nat.le_refl _)
                unfold FX11_wire
                rw [if_pos hb5_1, if_neg hb9_1, if_pos hb14_1, if_neg hb22_1, if_pos hb30_1, if_neg hb35_1, if_neg hb41_1]
                exact ⟨rfl, rfl⟩
      · skip
        refine j_ldc (v := -2000000000) rfl k_X11_136 ?_
        refine j_iret rfl rfl ?_ rfl (Nat.le_refl _)
        unfold FX11_wire
        rw [if_pos hb5_1, if_neg hb9_1, if_neg hb14_1]
        exact ⟨rfl, rfl⟩

def FX11_count (m : AM) (what : Int) : Int :=
  if what = 0 then
    mi m 0 16
  else
    if what = 1 then
      mi m 0 17
    else
      if what = 2 then
        mi m 6 5
      else
        if what = 3 then
          mi m 1 1
        else
          if what = 4 then
            mi m 22 1
          else
            (-1)
set_option maxRecDepth 20000 in
set_option maxHeartbeats 4000000 in
theorem ct_X11_count {G : QW} {m : AM} (hS : St m) {what : Int} (hwhat1 : -2147483648 ≤ what) (hwhat2 : what < 2147483648) : qM G mX11_count 0 0 0 [vR 0, vI what] m (fun r m' => r = some (vI (FX11_count m what)) ∧ m' = m) := by
  refine qM.intro okX11_count (Nat.le_of_ble_eq_true rfl) ?_
  refine j_iload_n rfl rfl ?_
  by_cases hs1_1_0 : what = 0
  · skip
    refine j_tableIn (tgt := 36) rfl (by omega) (by omega) (by omega) (by omega) (by rw [hs1_1_0]; rfl) (by decide) ?_
    refine j_aload_n rfl rfl ?_
    refine j_getI rfl f_X11_113 rfl (hS.lt (by decide)) (hS.k (by decide) (by decide)) ?_
    have u37_1 := mi_rng m 0 16
    refine j_iret rfl rfl ?_ rfl (Nat.le_refl _)
    unfold FX11_count
    rw [if_pos hs1_1_0]
    exact ⟨rfl, rfl⟩
  · skip
    by_cases hs1_1_1 : what = 1
    · skip
      refine j_tableIn (tgt := 41) rfl (by omega) (by omega) (by omega) (by omega) (by rw [hs1_1_1]; rfl) (by decide) ?_
      refine j_aload_n rfl rfl ?_
      refine j_getI rfl f_X11_156 rfl (hS.lt (by decide)) (hS.k (by decide) (by decide)) ?_
      have u42_1 := mi_rng m 0 17
      refine j_iret rfl rfl ?_ rfl (Nat.le_refl _)
      unfold FX11_count
      rw [if_neg hs1_1_0, if_pos hs1_1_1]
      exact ⟨rfl, rfl⟩
    · skip
      by_cases hs1_1_2 : what = 2
      · skip
        refine j_tableIn (tgt := 46) rfl (by omega) (by omega) (by omega) (by omega) (by rw [hs1_1_2]; rfl) (by decide) ?_
        refine j_aload_n rfl rfl ?_
        refine j_getR (q := 6) rfl f_X11_37 rfl (hS.lt (by decide)) (hS.k (by decide) (by decide)) (hS.r (by decide)) ?_
        refine j_getI rfl f_X11_324 rfl (hS.lt (by decide)) (hS.k (by decide) (by decide)) ?_
        have u50_1 := mi_rng m 6 5
        refine j_iret rfl rfl ?_ rfl (Nat.le_refl _)
        unfold FX11_count
        rw [if_neg hs1_1_0, if_neg hs1_1_1, if_pos hs1_1_2]
        exact ⟨rfl, rfl⟩
      · skip
        by_cases hs1_1_3 : what = 3
        · skip
          refine j_tableIn (tgt := 54) rfl (by omega) (by omega) (by omega) (by omega) (by rw [hs1_1_3]; rfl) (by decide) ?_
          refine j_aload_n rfl rfl ?_
          refine j_getR (q := 1) rfl f_X11_12 rfl (hS.lt (by decide)) (hS.k (by decide) (by decide)) (hS.r (by decide)) ?_
          refine j_getI rfl f_X11_106 rfl (hS.lt (by decide)) (hS.k (by decide) (by decide)) ?_
          have u58_1 := mi_rng m 1 1
          refine j_iret rfl rfl ?_ rfl (Nat.le_refl _)
          unfold FX11_count
          rw [if_neg hs1_1_0, if_neg hs1_1_1, if_neg hs1_1_2, if_pos hs1_1_3]
          exact ⟨rfl, rfl⟩
        · skip
          by_cases hs1_1_4 : what = 4
          · skip
            refine j_tableIn (tgt := 62) rfl (by omega) (by omega) (by omega) (by omega) (by rw [hs1_1_4]; rfl) (by decide) ?_
            refine j_aload_n rfl rfl ?_
            refine j_getR (q := 22) rfl f_X11_58 rfl (hS.lt (by decide)) (hS.k (by decide) (by decide)) (hS.r (by decide)) ?_
            refine j_getI rfl f_X11_356 rfl (hS.lt (by decide)) (hS.k (by decide) (by decide)) ?_
            have u66_1 := mi_rng m 22 1
            refine j_iret rfl rfl ?_ rfl (Nat.le_refl _)
            unfold FX11_count
            rw [if_neg hs1_1_0, if_neg hs1_1_1, if_neg hs1_1_2, if_neg hs1_1_3, if_pos hs1_1_4]
            exact ⟨rfl, rfl⟩
          · skip
            refine j_tableOut (tgt := 70) rfl (by omega) (by omega) (by omega) (by decide) ?_
            refine j_iconst rfl ?_
            refine j_iret rfl rfl ?_ rfl (Nat.le_refl _)
            unfold FX11_count
            rw [if_neg hs1_1_0, if_neg hs1_1_1, if_neg hs1_1_2, if_neg hs1_1_3, if_neg hs1_1_4]
            exact ⟨rfl, rfl⟩

def FX11_trace (m : AM) (i : Int) : Int :=
  if i < 0 then
    (-1)
  else
    if i ≥ (mi m 22 1) then
      (-1)
    else
      if i ≥ 24 then
        (-1)
      else
        mi m 23 i.toNat
set_option maxRecDepth 20000 in
set_option maxHeartbeats 4000000 in
theorem ct_X11_trace {G : QW} {m : AM} (hS : St m) {i : Int} (hi1 : -2147483648 ≤ i) (hi2 : i < 2147483648) (h9 : 0 ≤ mi m 22 1) (h10 : mi m 22 1 < 2147483648) : qM G mX11_trace 0 0 0 [vR 0, vI i] m (fun r m' => r = some (vI (FX11_trace m i)) ∧ m' = m) := by
  refine qM.intro okX11_trace (Nat.le_of_ble_eq_true rfl) ?_
  refine j_iload_n rfl rfl ?_
  refine j_if_lt (tgt := 33) rfl (by decide) (by omega) (by omega) (fun hb1_1 => ?_) (fun hb1_1 => ?_)
  · skip
    refine j_iconst rfl ?_
    refine j_iret rfl rfl ?_ rfl (Nat.le_refl _)
    unfold FX11_trace
    rw [if_pos hb1_1]
    exact ⟨rfl, rfl⟩
  · skip
    refine j_iload_n rfl rfl ?_
    refine j_aload_n rfl rfl ?_
    refine j_getR (q := 22) rfl f_X11_58 rfl (hS.lt (by decide)) (hS.k (by decide) (by decide)) (hS.r (by decide)) ?_
    refine j_getI rfl f_X11_356 rfl (hS.lt (by decide)) (hS.k (by decide) (by decide)) ?_
    have u9_1 := mi_rng m 22 1
    refine j_icmp_ge (tgt := 33) rfl (by decide) (by omega) (by omega) (by omega) (by omega) (fun hb12_1 => ?_) (fun hb12_1 => ?_)
    · skip
      refine j_iconst rfl ?_
      refine j_iret rfl rfl ?_ rfl (Nat.le_refl _)
      unfold FX11_trace
      rw [if_neg hb1_1, if_pos hb12_1]
      exact ⟨rfl, rfl⟩
    · skip
      refine j_iload_n rfl rfl ?_
      refine j_bipush rfl (by decide) ?_
      refine j_icmp_ge (tgt := 33) rfl (by decide) (by omega) (by omega) (by omega) (by omega) (fun hb18_1 => ?_) (fun hb18_1 => ?_)
      · skip
        refine j_iconst rfl ?_
        refine j_iret rfl rfl ?_ rfl (Nat.le_refl _)
        unfold FX11_trace
        rw [if_neg hb1_1, if_neg hb12_1, if_pos hb18_1]
        exact ⟨rfl, rfl⟩
      · skip
        refine j_aload_n rfl rfl ?_
        refine j_getR (q := 22) rfl f_X11_58 rfl (hS.lt (by decide)) (hS.k (by decide) (by decide)) (hS.r (by decide)) ?_
        refine j_getR (q := 23) rfl f_X11_366 rfl (hS.lt (by decide)) (hS.k (by decide) (by decide)) (hS.r (by decide)) ?_
        refine j_iload_n rfl rfl ?_
        refine j_iald (n := 24) rfl (hS.lt (by decide)) (hS.k (by decide) (by decide)) (hS.n (by decide) (by decide)) (by omega) (by omega) (by decide) ?_
        have u29_1 := mi_rng m 23 i.toNat
        refine j_goto (tgt := 34) rfl (by decide) ?_
        refine j_iret rfl rfl ?_ rfl (Nat.le_refl _)
        unfold FX11_trace
        rw [if_neg hb1_1, if_neg hb12_1, if_neg hb18_1]
        exact ⟨rfl, rfl⟩


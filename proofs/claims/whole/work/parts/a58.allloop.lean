theorem dead0 {K : AM} {o : Nat} {S : ZS} (h : JC K o S) : mi K o 7 ≠ 0 ↔ ∃ j : Nat, j < 6 ∧ S.fa j ≠ 0 := by
  have b := h.2.2.2.2.2.2.1
  have r := h.2.2.2.2.2.2.2
  constructor
  · intro hn
    refine Classical.byContradiction fun z => hn ((zero_of (by omega) (by omega)).mpr (fun i hi => ?_))
    by_cases c : i < 6
    · rw [b i c]
      exact decide_eq_false (fun q => z ⟨i, c, q⟩)
    · exact bt_hi (k := 6) r.1 (by show mi K o 7 < 64; exact r.2) (by decide) (by omega)
  · rintro ⟨j, hj, hz⟩ e
    have q := b j hj
    rw [e, bt_0, decide_eq_true hz] at q
    exact absurd q (by decide)

set_option maxRecDepth 20000 in
set_option maxHeartbeats 4000000 in
theorem ct_goesOver {G : QW} {m N : AM} {f n : Int} (hQ : QR m) (h : AK m f N) (hn : 1 ≤ n ∧ n ≤ 200) : qM G mX11_goesOver 6 0 0 [vR 0, vI n] N (fun r K => AK m f K ∧ (∀ j, mi K 49 j = mi N 49 j) ∧ ((gA m f n (mi N 49 0) (mi N 49 1) (mi N 49 2) ∧ r = some (vI 1)) ∨ (¬ gA m f n (mi N 49 0) (mi N 49 1) (mi N 49 2) ∧ r = some (vI 0)))) := by
  have ho : sto 40 := Or.inr (Or.inr rfl)
  have hS := h.2.1.s
  refine qM.intro okX11_goesOver (Nat.le_of_ble_eq_true rfl) ?_
  refine j_aload_n rfl rfl ?_
  refine j_aload_n rfl rfl ?_
  refine j_getR (q := 40) rfl f_X11_72 rfl (hS.lt (by decide)) (hS.k (by decide) (by decide)) (hS.r (by decide)) ?_
  refine j_aload_n rfl rfl ?_
  refine j_getR (q := 48) rfl f_X11_76 rfl (hS.lt (by decide)) (hS.k (by decide) (by decide)) (hS.r (by decide)) ?_
  refine j_iload_n rfl rfl ?_
  refine j_iconst rfl ?_
  refine j_callV (ci := 11) rfl okX11_fly c_X11_197 (ct_flyK (h.2.1.gt ho) h.2.1.2.1.1 h.2.1.2.2.2.2.2 (by decide) (by omega) hn.2 h.2.1.i (h.2.1.rc ho) h.2.1.2.2.2.2.1) rfl rfl (hS.lt (by decide)) (hS.k (by decide) (by decide)) (by decide) rfl (Nat.le_of_ble_eq_true rfl) (by decide) (by decide) ?_
  rintro vq K ⟨e1, hB, hC⟩
  rw [e1]
  clear e1
  simp only [Option.toList_some, Option.toList_none, List.cons_append, List.nil_append]
  have hQ2 := h.2.1.bi ho hB hC
  have hS := hQ2.s
  have c4 : ∀ c j, 49 ≤ c → c ≤ 52 → mi K c j = mi N c j := fun c j a b => hB.1.cel (by unfold tcl; omega) j
  have hA : AK m f K := ⟨h.1.trans (hB.1.cu ho (by decide)), hQ2, fun j hj => by rw [c4 50 j (by decide) (by decide), c4 51 j (by decide) (by decide), c4 52 j (by decide) (by decide)]; exact h.2.2 j hj⟩
  have hd := (dead0 hB.2.2.2.1).trans (zDie_fly.trans (h.die (n := n) hQ))
  refine j_aload_n rfl rfl ?_
  refine j_getR (q := 40) rfl f_X11_72 rfl (hS.lt (by decide)) (hS.k (by decide) (by decide)) (hS.r (by decide)) ?_
  refine j_getI rfl f_X11_201 rfl (hS.lt (by decide)) (hS.k (by decide) (by decide)) ?_
  have u18_1 := mi_rng K 40 7
  refine j_if_eq (tgt := 28) rfl (by decide) (by omega) (by omega) (fun hb21_1 => ?_) (fun hb21_1 => ?_)
  · skip
    refine j_iconst rfl ?_
    refine j_zret rfl rfl (by decide) ?_ rfl (Nat.le_refl _)
    refine ⟨hA, fun j => c4 49 j (by decide) (by decide), Or.inr ⟨fun z => absurd (hd.mpr z) (by omega), rfl⟩⟩
  · skip
    refine j_iconst rfl ?_
    refine j_goto (tgt := 29) rfl (by decide) ?_
    refine j_zret rfl rfl (by decide) ?_ rfl (Nat.le_refl _)
    refine ⟨hA, fun j => c4 49 j (by decide) (by decide), Or.inl ⟨hd.mp (by omega), rfl⟩⟩

/-- what all() of the class leaves -/
def AllF (m N : AM) : Prop := QR N ∧ QU m N ∧ (∀ c j : Nat, 86 ≤ c → c ≤ 144 → mi N c j = mi m c j) ∧ (∀ c j : Nat, 86 ≤ c → c ≤ 144 → ml N c j = ml m c j) ∧ ∀ c j : Nat, (24 ≤ c ∧ c ≤ 31) ∨ (c = 0 ∧ j ≠ 19) → mi N c j = mi m c j
theorem AK.fin {m N : AM} {f : Int} (h : AK m f N) : AllF m (si (cpi N 57 49 0 0 3) 0 19 1) ∧ (mi (si (cpi N 57 49 0 0 3) 0 19 1) 57 0 = mi N 49 0 ∧ mi (si (cpi N 57 49 0 0 3) 0 19 1) 57 1 = mi N 49 1 ∧ mi (si (cpi N 57 49 0 0 3) 0 19 1) 57 2 = mi N 49 2) ∧ mi (si (cpi N 57 49 0 0 3) 0 19 1) 0 19 = 1 := by
  have e19 : mi (si (cpi N 57 49 0 0 3) 0 19 1) 0 19 = 1 := mi_si_same _ _ _ (by decide) (by decide)
  have e : ∀ c j, ¬ (c = 0 ∧ j = 19) → mi (si (cpi N 57 49 0 0 3) 0 19 1) c j = mi (cpi N 57 49 0 0 3) c j := fun c j hc => mi_si_ne _ _ hc
  have e2 : ∀ c j, c ≠ 57 → mi (cpi N 57 49 0 0 3) c j = mi N c j := fun c j hc => by rw [mi_cpi, if_neg (fun q => hc q.1)]
  have e57 : ∀ j, mi (cpi N 57 49 0 0 3) 57 j = if j < 3 then mi N 49 j else mi N 57 j := fun j => by
    rw [mi_cpi]
    by_cases c : j < 3
    · rw [if_pos ⟨rfl, by omega, by omega⟩, if_pos c, show 0 + (j - 0) = j by omega]
    · rw [if_neg (fun q => c (by omega)), if_neg c]
  have z := h.2.1.mv (N := si (cpi N 57 49 0 0 3) 0 19 1) rfl (fun c j hc => by rw [e _ _ (by omega), e2 _ _ (by omega)]) (fun j => by rw [e _ _ (by omega), e2 _ _ (by decide)]; exact h.r49 j) (fun j => by rw [e _ _ (by omega), e2 _ _ (by decide)]; exact h.2.1.i.a 50 (-999) 999 (by decide) j) (fun j => by rw [e _ _ (by omega), e2 _ _ (by decide)]; exact h.2.1.i.a 51 0 99999 (by decide) j) (fun j => by
    rw [e _ _ (by omega), e57]
    split
    · exact h.r49 j
    · exact h.2.1.i.a 57 (-99999) 99999 (by decide) j) (by rw [e19]; decide)
  refine ⟨⟨z.1, h.1.1.trans z.2, fun c j a b => ?_, fun c j a b => h.1.2.2.1 c j a b, fun c j hc => ?_⟩, ⟨?_, ?_, ?_⟩, e19⟩
  · rw [e _ _ (by omega), e2 _ _ (by omega)]; exact h.1.2.1 c j a b
  · rw [e _ _ (by omega), e2 _ _ (by omega)]; exact h.1.2.2.2 c j (by omega)
  · rw [e _ _ (by omega), e57]; rfl
  · rw [e _ _ (by omega), e57]; rfl
  · rw [e _ _ (by omega), e57]; rfl
theorem AK.allF {m N : AM} {f : Int} (h : AK m f N) : AllF m N ∧ (∀ j, mi N 57 j = mi m 57 j) ∧ mi N 0 19 = mi m 0 19 := ⟨⟨h.2.1, h.1.1, h.1.2.1, h.1.2.2.1, fun c j hc => h.1.2.2.2 c j (by omega)⟩, fun j => h.1.2.2.2 57 j (by omega), h.1.2.2.2 0 19 (by omega)⟩
/-- what all() of the class answers -/
def AllA (m : AM) (k f n : Int) : Option Vl → AM → Prop := fun r N => AllF m N ∧ ((∃ a b c, inS m k a b c ∧ gA m f n a b c ∧ DoneS m k f n a b c ∧ r = some (vI (ixS m k a b c)) ∧ (mi N 57 0 = a ∧ mi N 57 1 = b ∧ mi N 57 2 = c) ∧ mi N 0 19 = 1) ∨ ((∀ a b c, inS m k a b c → ¬ gA m f n a b c) ∧ r = some (vI (-2)) ∧ (∀ j, mi N 57 j = mi m 57 j) ∧ mi N 0 19 = mi m 0 19))

set_option maxRecDepth 20000 in
set_option maxHeartbeats 4000000 in
theorem lp_all {G : QW} {m : AM} {k f n : Int} (hQ : QR m) (h3 : K3 m) (h4 : K4 m) (hk : 0 ≤ k ∧ k ≤ 1) (hn : 1 ≤ n ∧ n ≤ 200) (hmany : manyS m k ≤ 2000) : ∀ (c : Nat) (A : Int) (N : AM), AK m f N → inS m k (mi N 49 0) (mi N 49 1) (mi N 49 2) → A + c = 2000 → 0 ≤ A → A = ixS m k (mi N 49 0) (mi N 49 1) (mi N 49 2) → DoneS m k f n (mi N 49 0) (mi N 49 1) (mi N 49 2) → qJ G mX11_all { frames := 8, cells := 0, slots := 0, locals := 60 * 8 } (qF G (AllA m k f n) 0 0) 79 [(0, vR 0), (1, vI k), (2, vI f), (3, vI n), (4, vI (faC m (mi m 0 16).toNat)), (5, vI A)] [] N 0 0 := by
  intro c
  induction c with
  | zero =>
    intro A N h hs hc hA0 hA hD
    have := (ix_lt hs).2
    omega
  | succ c ih =>
    intro A N h hs hc hA0 hA hD
    have hS := h.2.1.s
    have hI := h.2.1.i
    refine j_iload rfl rfl ?_
    refine j_sipush rfl (by decide) ?_
    refine j_icmp_ge (tgt := 167) rfl (by decide) (by omega) (by omega) (by omega) (by omega) (fun hb84_1 => ?_) (fun hb84_1 => ?_)
    · skip
      refine j_bipush rfl (by decide) ?_
      refine j_iret rfl rfl ?_ rfl (Nat.le_refl _)
      exfalso
      have := (ix_lt hs).2
      omega
    · skip
      refine j_aload_n rfl rfl ?_
      refine j_getR (q := 12) rfl f_X11_44 rfl (hS.lt (by decide)) (hS.k (by decide) (by decide)) (hS.r (by decide)) ?_
      refine j_iload_n rfl rfl ?_
      refine j_aload_n rfl rfl ?_
      refine j_getR (q := 48) rfl f_X11_76 rfl (hS.lt (by decide)) (hS.k (by decide) (by decide)) (hS.r (by decide)) ?_
      refine j_getR (q := 49) rfl f_X11_242 rfl (hS.lt (by decide)) (hS.k (by decide) (by decide)) (hS.r (by decide)) ?_
      refine j_iload rfl rfl ?_
      refine j_callV (ci := 8) rfl okX8_isTelling c_X11_253 (ct_isTelling hS hI hk (faC_rng m _)) rfl rfl (hS.lt (by decide)) (hS.k (by decide) (by decide)) (by decide) rfl (Nat.le_of_ble_eq_true rfl) (by decide) (by decide) ?_
      rintro vq M9 ⟨e2, htl⟩
      rw [e2]
      clear e2
      rcases htl with ⟨htl, e1⟩ | ⟨htl, e1⟩
      · rw [e1]
        simp only [Option.toList_some, Option.toList_none, List.cons_append, List.nil_append]
        refine j_if_eq (tgt := 140) rfl (by decide) (by omega) (by omega) (fun hb104_1 => ?_) (fun hb104_1 => ?_)
        · skip
          exact absurd hb104_1 (by decide)
        · skip
          refine j_aload_n rfl rfl ?_
          refine j_iload_n rfl rfl ?_
          refine j_callV (ci := 11) rfl okX11_goesOver c_X11_257 (ct_goesOver hQ h hn) rfl rfl (hS.lt (by decide)) (hS.k (by decide) (by decide)) (by decide) rfl (Nat.le_of_ble_eq_true rfl) (by decide) (by decide) ?_
          rintro vq K ⟨hK, e49, hgo⟩
          have hS := hK.2.1.s
          have hI := hK.2.1.i
          rcases hgo with ⟨hg, e1⟩ | ⟨hg, e1⟩
          · rw [e1]
            simp only [Option.toList_some, Option.toList_none, List.cons_append, List.nil_append]
            refine j_if_eq (tgt := 140) rfl (by decide) (by omega) (by omega) (fun hb112_1 => ?_) (fun hb112_1 => ?_)
            · skip
              exact absurd hb112_1 (by decide)
            · skip
              refine j_aload_n rfl rfl ?_
              refine j_getR (q := 48) rfl f_X11_76 rfl (hS.lt (by decide)) (hS.k (by decide) (by decide)) (hS.r (by decide)) ?_
              refine j_getR (q := 49) rfl f_X11_242 rfl (hS.lt (by decide)) (hS.k (by decide) (by decide)) (hS.r (by decide)) ?_
              refine j_iconst rfl ?_
              refine j_aload_n rfl rfl ?_
              refine j_getR (q := 57) rfl f_X11_80 rfl (hS.lt (by decide)) (hS.k (by decide) (by decide)) (hS.r (by decide)) ?_
              refine j_iconst rfl ?_
              refine j_iconst rfl ?_
              refine j_copyI (sp := 0) (dp := 0) (n := 3) rfl cp_X11_260 (hS.lt (by decide)) (hS.lt (by decide)) (hS.k (by decide) (by decide)) (hS.k (by decide) (by decide)) (Nat.le_of_eq (hS.n (n := 49) (k := 3) (by decide) (by decide)).symm) (Nat.le_of_eq (hS.n (n := 57) (k := 3) (by decide) (by decide)).symm) (by decide) (by decide) (by decide) (by decide) (by decide) ?_
              refine j_aload_n rfl rfl ?_
              refine j_iconst rfl ?_
              refine j_putZ rfl f_X11_266 (by omega) rfl (hS.lt (by decide)) (hS.k (by decide) (by decide)) ?_
              refine j_iload rfl rfl ?_
              refine j_iret rfl rfl ?_ rfl (Nat.le_refl _)
              have fz := hK.fin
              rw [e49, e49, e49] at fz
              exact ⟨fz.1, Or.inl ⟨_, _, _, hs, hg, hD, by rw [hA], fz.2.1, fz.2.2⟩⟩
          · rw [e1]
            simp only [Option.toList_some, Option.toList_none, List.cons_append, List.nil_append]
            refine j_if_eq (tgt := 140) rfl (by decide) (by omega) (by omega) (fun hb112_1 => ?_) (fun hb112_1 => ?_)
            · skip
              refine j_aload_n rfl rfl ?_
              refine j_getR (q := 12) rfl f_X11_44 rfl (hS.lt (by decide)) (hS.k (by decide) (by decide)) (hS.r (by decide)) ?_
              refine j_iload_n rfl rfl ?_
              refine j_aload_n rfl rfl ?_
              refine j_getR (q := 48) rfl f_X11_76 rfl (hS.lt (by decide)) (hS.k (by decide) (by decide)) (hS.r (by decide)) ?_
              refine j_getR (q := 49) rfl f_X11_242 rfl (hS.lt (by decide)) (hS.k (by decide) (by decide)) (hS.r (by decide)) ?_
              refine j_callV (ci := 8) rfl okX8_putNext c_X11_270 (ct_putNext hS hI hk) rfl rfl (hS.lt (by decide)) (hS.k (by decide) (by decide)) (by decide) rfl (Nat.le_of_ble_eq_true rfl) (by decide) (by decide) ?_
              rintro vq mq ⟨e1, e2⟩
              have hz : ¬ gA m f n (mi K 49 0) (mi K 49 1) (mi K 49 2) := by rw [e49, e49, e49]; exact hg
              have hs2 : inS m k (mi K 49 0) (mi K 49 1) (mi K 49 2) := by rw [e49, e49, e49]; exact hs
              have hD2 : DoneS m k f n (mi K 49 0) (mi K 49 1) (mi K 49 2) := by rw [e49, e49, e49]; exact hD
              have hA2 : A = ixS m k (mi K 49 0) (mi K 49 1) (mi K 49 2) := by rw [e49, e49, e49]; exact hA
              rcases nx_spec (N := K) hQ h4 hk hK hs2 with ⟨n1, n2, n3, n4, n5⟩ | ⟨n1, n2, n5⟩
              · rw [n1] at e1
                rw [e1, e2]
                clear e1 e2
                simp only [Option.toList_some, Option.toList_none, List.cons_append, List.nil_append]
                have hS := n2.2.1.s
                have hI := n2.2.1.i
                refine j_if_ne (tgt := 161) rfl (by decide) (by omega) (by omega) (fun hb155_1 => ?_) (fun hb155_1 => ?_)
                · skip
                  refine j_iinc rfl rfl (by decide) ?_
                  refine j_goto (tgt := 79) rfl (by decide) ?_
                  refine j_loc (ls' := [(0, vR 0), (1, vI k), (2, vI f), (3, vI n), (4, vI (faC m (mi m 0 16).toNat)), (5, vI (A + 1))]) rfl ?_
                  refine ih (A + 1) _ n2 n3 (by omega) (by omega) (by rw [n4, hA2]) (fun a b c hi hl => ?_)
                  rcases n5 a b c hi hl with q | q
                  · exact hD2 a b c hi q
                  · rw [q.1, q.2.1, q.2.2]; exact hz
                · skip
                  exact absurd hb155_1 (by decide)
              · rw [n1] at e1
                rw [e1, e2]
                clear e1 e2
                simp only [Option.toList_some, Option.toList_none, List.cons_append, List.nil_append]
                refine j_if_ne (tgt := 161) rfl (by decide) (by omega) (by omega) (fun hb155_1 => ?_) (fun hb155_1 => ?_)
                · skip
                  exact absurd hb155_1 (by decide)
                · skip
                  refine j_goto (tgt := 167) rfl (by decide) ?_
                  refine j_bipush rfl (by decide) ?_
                  refine j_iret rfl rfl ?_ rfl (Nat.le_refl _)
                  have fz := n2.allF
                  exact ⟨fz.1, Or.inr ⟨fun a b c hi => by
                    rcases n5 a b c hi with q | q
                    · exact hD2 a b c hi q
                    · rw [q.1, q.2.1, q.2.2]; exact hz, rfl, fz.2⟩⟩
            · skip
              exact absurd hb112_1 (by decide)
      · rw [e1]
        simp only [Option.toList_some, Option.toList_none, List.cons_append, List.nil_append]
        refine j_if_eq (tgt := 140) rfl (by decide) (by omega) (by omega) (fun hb104_1 => ?_) (fun hb104_1 => ?_)
        · skip
          refine j_aload_n rfl rfl ?_
          refine j_getR (q := 12) rfl f_X11_44 rfl (hS.lt (by decide)) (hS.k (by decide) (by decide)) (hS.r (by decide)) ?_
          refine j_iload_n rfl rfl ?_
          refine j_aload_n rfl rfl ?_
          refine j_getR (q := 48) rfl f_X11_76 rfl (hS.lt (by decide)) (hS.k (by decide) (by decide)) (hS.r (by decide)) ?_
          refine j_getR (q := 49) rfl f_X11_242 rfl (hS.lt (by decide)) (hS.k (by decide) (by decide)) (hS.r (by decide)) ?_
          refine j_callV (ci := 8) rfl okX8_putNext c_X11_270 (ct_putNext hS hI hk) rfl rfl (hS.lt (by decide)) (hS.k (by decide) (by decide)) (by decide) rfl (Nat.le_of_ble_eq_true rfl) (by decide) (by decide) ?_
          rintro vq mq ⟨e1, e2⟩
          have hz : ¬ gA m f n (mi N 49 0) (mi N 49 1) (mi N 49 2) := skip_ok hQ h3 h4 hk h hs hD htl
          have hs2 : inS m k (mi N 49 0) (mi N 49 1) (mi N 49 2) := hs
          have hD2 : DoneS m k f n (mi N 49 0) (mi N 49 1) (mi N 49 2) := hD
          have hA2 : A = ixS m k (mi N 49 0) (mi N 49 1) (mi N 49 2) := hA
          rcases nx_spec (N := N) hQ h4 hk h hs2 with ⟨n1, n2, n3, n4, n5⟩ | ⟨n1, n2, n5⟩
          · rw [n1] at e1
            rw [e1, e2]
            clear e1 e2
            simp only [Option.toList_some, Option.toList_none, List.cons_append, List.nil_append]
            have hS := n2.2.1.s
            have hI := n2.2.1.i
            refine j_if_ne (tgt := 161) rfl (by decide) (by omega) (by omega) (fun hb155_1 => ?_) (fun hb155_1 => ?_)
            · skip
              refine j_iinc rfl rfl (by decide) ?_
              refine j_goto (tgt := 79) rfl (by decide) ?_
              refine j_loc (ls' := [(0, vR 0), (1, vI k), (2, vI f), (3, vI n), (4, vI (faC m (mi m 0 16).toNat)), (5, vI (A + 1))]) rfl ?_
              refine ih (A + 1) _ n2 n3 (by omega) (by omega) (by rw [n4, hA2]) (fun a b c hi hl => ?_)
              rcases n5 a b c hi hl with q | q
              · exact hD2 a b c hi q
              · rw [q.1, q.2.1, q.2.2]; exact hz
            · skip
              exact absurd hb155_1 (by decide)
          · rw [n1] at e1
            rw [e1, e2]
            clear e1 e2
            simp only [Option.toList_some, Option.toList_none, List.cons_append, List.nil_append]
            refine j_if_ne (tgt := 161) rfl (by decide) (by omega) (by omega) (fun hb155_1 => ?_) (fun hb155_1 => ?_)
            · skip
              exact absurd hb155_1 (by decide)
            · skip
              refine j_goto (tgt := 167) rfl (by decide) ?_
              refine j_bipush rfl (by decide) ?_
              refine j_iret rfl rfl ?_ rfl (Nat.le_refl _)
              have fz := n2.allF
              exact ⟨fz.1, Or.inr ⟨fun a b c hi => by
                rcases n5 a b c hi with q | q
                · exact hD2 a b c hi q
                · rw [q.1, q.2.1, q.2.2]; exact hz, rfl, fz.2⟩⟩
        · skip
          exact absurd hb104_1 (by decide)

/-- the trial flight takes STEP and CAP of a flight -/
theorem all_course {m : AM} {f : Int} (hQ : QR m) (h52 : ∀ j : Nat, j < 3 → mi m 52 j = -1) (hf : 0 ≤ f ∧ f < mi m 0 17) : AK m f (FX3_copyCourse m 48 (fl m f)) ∧ ∀ c j, c ≠ 50 → c ≠ 51 → mi (FX3_copyCourse m 48 (fl m f)) c j = mi m c j := by
  have F := hQ.flt hf.1 hf.2
  have e : ∀ c j, c ≠ 50 → c ≠ 51 → mi (FX3_copyCourse m 48 (fl m f)) c j = mi m c j := fun c j h0 h1 => by
    unfold FX3_copyCourse
    rw [mi_cpi, if_neg (fun q => h1 q.1), mi_cpi, if_neg (fun q => h0 q.1)]
  have e50 : ∀ j, mi (FX3_copyCourse m 48 (fl m f)) 50 j = if j < 3 then mi m (fl m f + 2) j else mi m 50 j := fun j => by
    unfold FX3_copyCourse
    rw [mi_cpi, if_neg (fun q => absurd q.1 (by decide)), mi_cpi]
    by_cases c : j < 3
    · rw [if_pos ⟨rfl, by omega, by omega⟩, if_pos c, show 0 + (j - 0) = j by omega]
    · rw [if_neg (fun q => c (by omega)), if_neg c]
  have e51 : ∀ j, mi (FX3_copyCourse m 48 (fl m f)) 51 j = if j < 3 then mi m (fl m f + 3) j else mi m 51 j := fun j => by
    unfold FX3_copyCourse
    rw [mi_cpi]
    by_cases c : j < 3
    · rw [if_pos ⟨rfl, by omega, by omega⟩, if_pos c, show 0 + (j - 0) = j by omega, mi_cpi, if_neg (fun q => by have := F.1.2; have := q.1; omega)]
    · rw [if_neg (fun q => c (by omega)), if_neg c, mi_cpi, if_neg (fun q => absurd q.1 (by decide))]
  obtain ⟨a1, a2, a3, a4, a5, a6, a7, a8⟩ := hQ.2.2.2.2.2
  obtain ⟨b1, b2, b3, b4, b5, b6, b7, b8⟩ := F.2.1
  have z := hQ.mv (N := FX3_copyCourse m 48 (fl m f)) rfl (fun c j hc => e c j (by omega) (by omega)) (fun j => by rw [e _ _ (by decide) (by decide)]; exact a4 j) (fun j => by
    rw [e50]
    split
    · exact b5 j
    · exact a5 j) (fun j => by
    rw [e51]
    split
    · exact b6 j
    · exact a6 j) (fun j => by rw [e _ _ (by decide) (by decide)]; exact hQ.i.a 57 (-99999) 99999 (by decide) j) (by rw [e _ _ (by decide) (by decide)]; exact hQ.i.s 0 19 0 1 (by decide))
  refine ⟨⟨(CU.rf m).mv rfl (fun c j hc => e c j (by omega) (by omega)), z.1, fun j hj => ?_⟩, e⟩
  have A := F.2.2 j hj
  rw [e50, if_pos hj, e51, if_pos hj, e _ _ (by decide) (by decide)]
  exact ⟨A.2.1, A.2.2.1, h52 j hj⟩
/-- and begins at the first beginning -/
theorem all_first {m N : AM} {k f : Int} (hQ : QR m) (h4 : K4 m) (hk : 0 ≤ k ∧ k ≤ 1) (h : AK m f N ∧ ∀ c j, c ≠ 50 → c ≠ 51 → mi N c j = mi m c j) : AK m f (cpi N 49 13 (k * 3).toNat 0 3) ∧ (∀ h3 : K3 m, faC (cpi N 49 13 (k * 3).toNat 0 3) (mi (cpi N 49 13 (k * 3).toNat 0 3) 0 16).toNat = faC m (mi m 0 16).toNat ∧ K3 (cpi N 49 13 (k * 3).toNat 0 3)) ∧ (mi (cpi N 49 13 (k * 3).toNat 0 3) 49 0 = loS m k 0 ∧ mi (cpi N 49 13 (k * 3).toNat 0 3) 49 1 = loS m k 1 ∧ mi (cpi N 49 13 (k * 3).toNat 0 3) 49 2 = loS m k 2) := by
  have e : ∀ c j, c ≠ 49 → mi (cpi N 49 13 (k * 3).toNat 0 3) c j = mi N c j := fun c j hc => by rw [mi_cpi, if_neg (fun q => hc q.1)]
  have e49 : ∀ j, mi (cpi N 49 13 (k * 3).toNat 0 3) 49 j = if j < 3 then mi N 13 ((k * 3).toNat + j) else mi N 49 j := fun j => by
    rw [mi_cpi]
    by_cases c : j < 3
    · rw [if_pos ⟨rfl, by omega, by omega⟩, if_pos c, show (k * 3).toNat + (j - 0) = (k * 3).toNat + j by omega]
    · rw [if_neg (fun q => c (by omega)), if_neg c]
  have A := h.1.put (K := cpi N 49 13 (k * 3).toNat 0 3) rfl e (fun j => by
    rw [e49]
    split
    · exact h.1.2.1.i.a 13 (-99999) 99999 (by decide) _
    · exact h.1.r49 j)
  refine ⟨A, fun h3 => ?_, ?_, ?_, ?_⟩
  · have q := A.1.1
    have e16 : mi (cpi N 49 13 (k * 3).toNat 0 3) 0 16 = mi m 0 16 := q.2.2.1 0 16 (by unfold NQ; omega)
    have pgs : ∀ b : Int, 0 ≤ b → b < mi m 0 16 → pg (cpi N 49 13 (k * 3).toNat 0 3) b = pg m b ∧ (pg m b = 62 ∨ 145 ≤ pg m b) := fun b h0 h1 => by
      have B := (hQ.2.1.2 b h0 (by rw [← hQ.2.1.1]; exact h1)).1
      exact ⟨q.pge B.2.1.1, B.2.1.2⟩
    have w : ∀ (p n : Nat), (p = 62 ∨ 145 ≤ p) → frC (cpi N 49 13 (k * 3).toNat 0 3) p n = frC m p n := by
      intro p n hp
      induction n with
      | zero => rfl
      | succ n ih =>
        show z_ior (frC (cpi N 49 13 (k * 3).toNat 0 3) p n) (if z_ishr (mi (cpi N 49 13 (k * 3).toNat 0 3) (p + 1) n) 20 = 3 then z_ishl 1 (z_iand (mi (cpi N 49 13 (k * 3).toNat 0 3) (p + 1) n) 1048575) else 0) = z_ior (frC m p n) (if z_ishr (mi m (p + 1) n) 20 = 3 then z_ishl 1 (z_iand (mi m (p + 1) n) 1048575) else 0)
        rw [ih, q.2.2.1 (p + 1) n (nqp hp (by decide) n)]
    have fa : ∀ n : Nat, (n : Int) ≤ mi m 0 16 → faC (cpi N 49 13 (k * 3).toNat 0 3) n = faC m n := by
      intro n
      induction n with
      | zero => intro _; rfl
      | succ n ih =>
        intro hn
        have P := pgs n (by omega) (by omega)
        show z_ior (faC (cpi N 49 13 (k * 3).toNat 0 3) n) (frC (cpi N 49 13 (k * 3).toNat 0 3) (pg (cpi N 49 13 (k * 3).toNat 0 3) n) (mi (cpi N 49 13 (k * 3).toNat 0 3) (pg (cpi N 49 13 (k * 3).toNat 0 3) n) 5).toNat) = z_ior (faC m n) (frC m (pg m n) (mi m (pg m n) 5).toNat)
        rw [ih (by omega), P.1, w _ _ P.2, q.2.2.1 (pg m n) 5 (nqq P.2 5)]
    have h16 := hQ.i.s 0 16 0 6 (by decide)
    refine ⟨by rw [e16, fa _ (by omega)], fun b h0 h1 => ?_⟩
    rw [e16] at h1
    have P := pgs b h0 h1
    have g := h3 b h0 h1
    rw [P.1, q.2.2.1 (pg m b) 5 (nqq P.2 5), q.wn]
    exact g
  all_goals
    rw [e49]
    first
      | rw [if_pos (by decide)]
    rw [h.2 13 _ (by decide) (by decide)]
  · have := (lo_k h4 (QU.rf m) hk (j := 0) (by decide)).1
    rw [show (k * 3).toNat + 0 = ((k * 3) + 0).toNat by omega]; exact this
  · have := (lo_k h4 (QU.rf m) hk (j := 1) (by decide)).1
    rw [show (k * 3).toNat + 1 = ((k * 3) + 1).toNat by omega]; exact this
  · have := (lo_k h4 (QU.rf m) hk (j := 2) (by decide)).1
    rw [show (k * 3).toNat + 2 = ((k * 3) + 2).toNat by omega]; exact this
theorem all_in {m N : AM} {k : Int} (hQ : QR m) (hk : 0 ≤ k ∧ k ≤ 1) (h : mi N 49 0 = loS m k 0 ∧ mi N 49 1 = loS m k 1 ∧ mi N 49 2 = loS m k 2) : inS m k (mi N 49 0) (mi N 49 1) (mi N 49 2) := by
  have o : ∀ j : Int, 0 ≤ j → j ≤ 2 → loS m k j ≤ hiS m k j := fun j h0 h2 => hQ.1.1.2.2 ((3 * k) + j) (by omega) (by omega)
  rw [h.1, h.2.1, h.2.2]
  exact ⟨⟨Int.le_refl _, o 0 (by decide) (by decide)⟩, ⟨Int.le_refl _, o 1 (by decide) (by decide)⟩, Int.le_refl _, o 2 (by decide) (by decide)⟩
theorem all_zero {m N : AM} {k : Int} (h : mi N 49 0 = loS m k 0 ∧ mi N 49 1 = loS m k 1 ∧ mi N 49 2 = loS m k 2) : 0 = ixS m k (mi N 49 0) (mi N 49 1) (mi N 49 2) := by
  unfold ixS
  rw [h.1, h.2.1, h.2.2, Int.sub_self, Int.sub_self, Int.sub_self, Int.zero_mul, Int.zero_add, Int.zero_mul, Int.zero_add]
theorem all_done {m N : AM} {k f n : Int} (h : mi N 49 0 = loS m k 0 ∧ mi N 49 1 = loS m k 1 ∧ mi N 49 2 = loS m k 2) : DoneS m k f n (mi N 49 0) (mi N 49 1) (mi N 49 2) := by
  intro a b c hi hl
  rw [h.1, h.2.1, h.2.2] at hl
  unfold inS lxS at *
  omega

set_option maxRecDepth 20000 in
set_option maxHeartbeats 4000000 in
/-- all() of the class -/
theorem cr_all {G : QW} {m : AM} {k f n : Int} (hQ : QR m) (h3 : K3 m) (h4 : K4 m) (h52 : ∀ j : Nat, j < 3 → mi m 52 j = -1) (hk1 : -2147483648 ≤ k) (hk2 : k < 2147483648) (hf1 : -2147483648 ≤ f) (hf2 : f < 2147483648) (hn1 : -2147483648 ≤ n) (hn2 : n < 2147483648) : qM G mX11_all 8 0 0 [vR 0, vI k, vI f, vI n] m (fun r N2 => (((0 ≤ k ∧ k ≤ 1) ∧ (0 ≤ f ∧ f < mi m 0 17) ∧ 1 ≤ n ∧ n ≤ 200) → (manyS m k > 2000 → r = some (vI (-4)) ∧ N2 = m) ∧ (¬ manyS m k > 2000 → AllA m k f n r N2)) ∧ (¬ ((0 ≤ k ∧ k ≤ 1) ∧ (0 ≤ f ∧ f < mi m 0 17) ∧ 1 ≤ n ∧ n ≤ 200) → r = some (vI (-1)) ∧ N2 = m)) := by
  have hS := hQ.s
  have hI := hQ.i
  have h17 := hI.s 0 17 0 8 (by decide)
  refine qM.intro okX11_all (Nat.le_of_ble_eq_true rfl) ?_
  refine j_iload_n rfl rfl ?_
  refine j_callS (As := [_]) rfl okX11_isMachine c_X11_229 (ct_X11_isMachine (by omega) (by omega)) rfl rfl (Nat.le_of_ble_eq_true rfl) (by decide) (by decide) ?_
  rintro vq mq ⟨e1, e2⟩
  rw [e1, e2]
  clear e1 e2
  simp only [Option.toList_some, Option.toList_none, List.cons_append, List.nil_append]
  refine j_bif_eq (tgt := 22) rfl (by decide) (fun hb4_1 => ?_) (fun hb4_1 => ?_)
  · skip
    refine j_iconst rfl ?_
    refine j_iret rfl rfl ?_ rfl (Nat.le_refl _)
    exact ⟨fun z => by exfalso; exact hb4_1 z.1, fun _ => ⟨rfl, rfl⟩⟩
  · skip
    refine j_aload_n rfl rfl ?_
    refine j_iload_n rfl rfl ?_
    refine j_callV (ci := 11) rfl okX11_isFlight c_X11_191 (ct_X11_isFlight hS hI (by omega) (by omega)) rfl rfl (hS.lt (by decide)) (hS.k (by decide) (by decide)) (by decide) rfl (Nat.le_of_ble_eq_true rfl) (by decide) (by decide) ?_
    rintro vq mq ⟨e1, e2⟩
    rw [e1, e2]
    clear e1 e2
    simp only [Option.toList_some, Option.toList_none, List.cons_append, List.nil_append]
    have w1 := hI.s 0 17 (0) 8 (by decide)
    refine j_bif_eq (tgt := 22) rfl (by decide) (fun hb12_1 => ?_) (fun hb12_1 => ?_)
    · skip
      refine j_iconst rfl ?_
      refine j_iret rfl rfl ?_ rfl (Nat.le_refl _)
      exact ⟨fun z => by exfalso; exact hb12_1 z.2.1, fun _ => ⟨rfl, rfl⟩⟩
    · skip
      refine j_iload_n rfl rfl ?_
      refine j_callS (As := [_]) rfl okX11_isTicks c_X11_194 (ct_X11_isTicks (by omega) (by omega)) rfl rfl (Nat.le_of_ble_eq_true rfl) (by decide) (by decide) ?_
      rintro vq mq ⟨e1, e2⟩
      rw [e1, e2]
      clear e1 e2
      simp only [Option.toList_some, Option.toList_none, List.cons_append, List.nil_append]
      refine j_bif_ne (tgt := 24) rfl (by decide) (fun hb19_1 => ?_) (fun hb19_1 => ?_)
      · skip
        refine j_aload_n rfl rfl ?_
        refine j_getR (q := 12) rfl f_X11_44 rfl (hS.lt (by decide)) (hS.k (by decide) (by decide)) (hS.r (by decide)) ?_
        refine j_iload_n rfl rfl ?_
        refine j_callV (ci := 8) rfl okX8_beginnings c_X11_232 (ct_beginnings hS hI hb4_1) rfl rfl (hS.lt (by decide)) (hS.k (by decide) (by decide)) (by decide) rfl (Nat.le_of_ble_eq_true rfl) (by decide) (by decide) ?_
        rintro vq mq ⟨e1, e2⟩
        rw [e1, e2]
        clear e1 e2
        simp only [Option.toList_some, Option.toList_none, List.cons_append, List.nil_append]
        have lk := fun j (hj : 0 ≤ j ∧ j ≤ 2) => lo_k (N := m) h4 (QU.rf m) hb4_1 hj
        rw [(lk 0 (by decide)).1, (lk 0 (by decide)).2, (lk 1 (by decide)).1, (lk 1 (by decide)).2, (lk 2 (by decide)).1, (lk 2 (by decide)).2]
        rw [show ((1 * (hiS m k 0 - loS m k 0 + 1)) * (hiS m k 1 - loS m k 1 + 1)) * (hiS m k 2 - loS m k 2 + 1) = manyS m k from by rw [many_e, wd_e, wd_e, wd_e, Int.one_mul]]
        have hmr := manyS_rng hI k
        refine j_ldc2 (v := 2000) rfl k_X11_236 ?_
        refine j_lc_le (tgt := 42) rfl rfl (by decide) (by omega) (by omega) (by omega) (by omega) (fun hb35_1 => ?_) (fun hb35_1 => ?_)
        · skip
          have hF := hQ.flt hb12_1.1 hb12_1.2
          have hFo := hF.2.1.1
          refine j_aload_n rfl rfl ?_
          refine j_getR (q := 48) rfl f_X11_76 rfl (hS.lt (by decide)) (hS.k (by decide) (by decide)) (hS.r (by decide)) ?_
          refine j_aload_n rfl rfl ?_
          refine j_getR (q := 4) rfl f_X11_24 rfl (hS.lt (by decide)) (hS.k (by decide) (by decide)) (hS.r (by decide)) ?_
          refine j_iload_n rfl rfl ?_
          refine j_aald (k := 18) (n := 8) (v := (fl m f)) rfl (hS.lt (by decide)) (hS.k (by decide) (by decide)) el18 (hS.n (by decide) (by decide)) (by omega) (by omega) (by decide) hF.1.1 ?_
          refine j_callV (ci := 3) rfl okX3_copyCourse c_X11_238 (ct_X3_copyCourse (o := 48) hQ.2.2.2.2.2.1 hFo) rfl rfl (hS.lt (by decide)) (hS.k (by decide) (by decide)) (by decide) rfl (Nat.le_of_ble_eq_true rfl) (by decide) (by decide) ?_
          rintro vq mq ⟨e1, e2⟩
          rw [e1, e2]
          clear e1 e2
          simp only [Option.toList_some, Option.toList_none, List.cons_append, List.nil_append]
          have hA1 := all_course (f := f) hQ h52 ⟨hb12_1.1, hb12_1.2⟩
          have hS := hA1.1.2.1.s
          have hI := hA1.1.2.1.i
          refine j_aload_n rfl rfl ?_
          refine j_getR (q := 12) rfl f_X11_44 rfl (hS.lt (by decide)) (hS.k (by decide) (by decide)) (hS.r (by decide)) ?_
          refine j_iload_n rfl rfl ?_
          refine j_aload_n rfl rfl ?_
          refine j_getR (q := 48) rfl f_X11_76 rfl (hS.lt (by decide)) (hS.k (by decide) (by decide)) (hS.r (by decide)) ?_
          refine j_getR (q := 49) rfl f_X11_242 rfl (hS.lt (by decide)) (hS.k (by decide) (by decide)) (hS.r (by decide)) ?_
          refine j_callV (ci := 8) rfl okX8_putFirst c_X11_245 (ct_putFirst hS hI hb4_1) rfl rfl (hS.lt (by decide)) (hS.k (by decide) (by decide)) (by decide) rfl (Nat.le_of_ble_eq_true rfl) (by decide) (by decide) ?_
          rintro vq mq ⟨e1, e2⟩
          rw [e1, e2]
          clear e1 e2
          simp only [Option.toList_some, Option.toList_none, List.cons_append, List.nil_append]
          have hA2 := all_first hQ h4 hb4_1 hA1
          have hS := hA2.1.2.1.s
          have hI := hA2.1.2.1.i
          refine j_aload_n rfl rfl ?_
          refine j_callV (ci := 11) rfl okX11_feltsRead c_X11_249 (ct_feltsReadA hA2.1.2.1 (hA2.2.1 h3).2) rfl rfl (hS.lt (by decide)) (hS.k (by decide) (by decide)) (by decide) rfl (Nat.le_of_ble_eq_true rfl) (by decide) (by decide) ?_
          rintro vq mq ⟨e1, e2⟩
          rw [e1, e2, (hA2.2.1 h3).1]
          clear e1 e2
          simp only [Option.toList_some, Option.toList_none, List.cons_append, List.nil_append]
          have hfr := faC_rng m (mi m 0 16).toNat
          refine j_istore rfl (by decide) ?_
          refine j_iconst rfl ?_
          refine j_istore rfl (by decide) ?_
          refine j_loc (ls' := [(0, vR 0), (1, vI k), (2, vI f), (3, vI n), (4, vI (faC m (mi m 0 16).toNat)), (5, vI 0)]) rfl ?_
          refine qM_end (fun r N2 z => ⟨fun _ => ⟨fun q => absurd q (by omega), fun _ => z⟩, fun q => absurd ⟨hb4_1, hb12_1, hb19_1⟩ q⟩) ?_
          refine lp_all hQ h3 h4 hb4_1 hb19_1 (by omega) 2000 0 _ hA2.1 ?_ (by decide) (by decide) ?_ ?_
          · exact all_in hQ hb4_1 hA2.2.2
          · exact all_zero hA2.2.2
          · exact all_done hA2.2.2
        · skip
          refine j_bipush rfl (by decide) ?_
          refine j_iret rfl rfl ?_ rfl (Nat.le_refl _)
          exact ⟨fun _ => ⟨fun _ => ⟨rfl, rfl⟩, fun q => absurd (show manyS m k > 2000 by omega) q⟩, fun q => absurd ⟨hb4_1, hb12_1, hb19_1⟩ q⟩
      · skip
        refine j_iconst rfl ?_
        refine j_iret rfl rfl ?_ rfl (Nat.le_refl _)
        exact ⟨fun z => by exfalso; exact hb19_1 z.2.2, fun _ => ⟨rfl, rfl⟩⟩


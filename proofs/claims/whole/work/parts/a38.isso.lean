theorem QU.gap {m N : AM} (h : QU m N) (k b : Int) : gapX N k b = gapX m k b := by
  have e : ∀ c, (87 ≤ c ∧ c ≤ 105) ∨ c = 123 ∨ c = 124 → mi N c = mi m c := fun c hc => funext (fun j => h.2.2.1 c j (by unfold NQ; omega))
  have ec : cdX N = cdX m := by
    unfold cdX
    rw [e 98 (by decide), e 99 (by decide)]
  have er : ∀ b, rdE N k b = rdE m k b := fun b => by
    funext w v
    unfold rdE
    rw [e 88 (by decide), e 123 (by decide), e 124 (by decide)]
    rfl
  have en : ∀ l, enX N k b l = enX m k b l := fun l => by
    unfold enX
    rw [ec, er, e 96 (by decide), e 97 (by decide)]
  have em : ∀ x y, mostX N x y = mostX m x y := fun x y => by
    unfold mostX
    rw [e 94 (by decide), e 88 (by decide)]
    rfl
  have eg : gaF N k b = gaF m k b := by
    funext l
    unfold gaF ovF
    rw [en, e 93 (by decide), em]
  unfold gapX
  rw [eg, e 91 (by decide)]
theorem QU.k4 {m N : AM} (h : QU m N) (k : K4 m) : K4 N := fun j hj => by
  rw [h.2.2.1 13 j (by unfold NQ; omega), h.2.2.1 14 j (by unfold NQ; omega), h.2.2.1 123 j (by unfold NQ; omega), h.2.2.1 124 j (by unfold NQ; omega)]
  exact k j hj
/-- what stands along with a paper, by the class -/
def alG (m : AM) (g : Int) : Int := if 0 ≤ g ∧ g < 20 then mi m 10 g.toNat else 0
/-- papers: the class's are the reference's -/
def K6 (m : AM) : Prop := mi m 6 5 = mi m 86 70 ∧ (∀ p : Int, 0 ≤ p → p < mi m 86 70 → (mi m 7 p.toNat = mi m 133 p.toNat ∧ mi m 8 p.toNat = mi m 134 p.toNat ∧ mi m 9 p.toNat = mi m 135 p.toNat) ∧ mi m 10 p.toNat = z_ior (z_ior (alG m (mi m 136 (2 * p).toNat)) (alG m (mi m 136 ((2 * p) + 1).toNat))) (z_ishl 1 p)) ∧
  ∀ p q : Int, 0 ≤ p → p < 20 → 0 ≤ q → q < 12 → (mi m 11 ((q * 20) + p).toNat = -1 ∧ mi m 137 ((12 * p) + q).toNat = 0) ∨ (p < mi m 86 70 ∧ mi m 137 ((12 * p) + q).toNat = z_ior (mi m 11 ((q * 20) + p).toNat) 1048576 ∧ (0 ≤ mi m 11 ((q * 20) + p).toNat ∧ mi m 11 ((q * 20) + p).toNat < 1048576) ∧ ∀ i : Nat, i < 32 → bt (mi m 11 ((q * 20) + p).toNat) i = true → (i : Int) < mi m 86 70)
theorem QU.k6 {m N : AM} (h : QU m N) (k : K6 m) : K6 N := by
  have e : ∀ c j, (6 ≤ c ∧ c ≤ 11) ∨ (133 ≤ c ∧ c ≤ 137) → mi N c j = mi m c j := fun c j hc => h.2.2.1 c j (by unfold NQ; omega)
  have e70 : mi N 86 70 = mi m 86 70 := h.2.2.1 86 70 (by unfold NQ; omega)
  unfold K6 alG at *
  rw [e70]
  simp only [e 6 _ (by decide), e 7 _ (by decide), e 8 _ (by decide), e 9 _ (by decide), e 10 _ (by decide), e 11 _ (by decide), e 133 _ (by decide), e 134 _ (by decide), e 135 _ (by decide), e 136 _ (by decide), e 137 _ (by decide)]
  exact k
/-- whether a paper's own claim is so -/
noncomputable def soV (m : AM) (k p : Int) : Int :=
  if mi m 134 p.toNat < 3 then (if -mi m 135 p.toNat ≤ mi m 123 ((k * 3) + mi m 134 p.toNat).toNat ∧ mi m 124 ((k * 3) + mi m 134 p.toNat).toNat ≤ mi m 135 p.toNat then 1 else 0)
  else if mi m 133 p.toNat = 0 then (if gapX m k (mi m 134 p.toNat - 10) = 0 then 1 else 0)
  else if (zwFull (wN m) (Fm m (mi m 135 p.toNat / 100)) (mi m 135 p.toNat % 100)).fa (mi m 134 p.toNat - 10).toNat = 0 then 1 else 0
theorem soV_01 (m : AM) (k p : Int) : soV m k p = 0 ∨ soV m k p = 1 := by
  unfold soV
  split
  · split <;> simp
  · split
    · split <;> simp
    · split <;> simp
theorem QU.so {m N : AM} (h : QU m N) (hQ : QR m) (k : Int) {p : Int} (hp : 0 ≤ p ∧ p < mi m 86 70) : soV N k p = soV m k p := by
  have e : ∀ c j, (c = 123 ∨ c = 124) ∨ (133 ≤ c ∧ c ≤ 137) → mi N c j = mi m c j := fun c j hc => h.2.2.1 c j (by unfold NQ; omega)
  have hP := hQ.1.2 p hp.1 hp.2
  unfold soV
  simp only [e 123 _ (by decide), e 124 _ (by decide), e 133 _ (by decide), e 134 _ (by decide), e 135 _ (by decide), h.gap]
  split
  · rfl
  · split
    · rfl
    · next q1 q2 =>
      have h3 := hQ.i.a 133 0 1 (by decide) p.toNat
      have q := hP.1 (by omega)
      have hf : 145 ≤ fl m (mi m 135 p.toNat / 100) := (hQ.flt (by omega) (by rw [hQ.2.2.1.1]; omega)).1.2
      have ef : Fm N (mi m 135 p.toNat / 100) = Fm m (mi m 135 p.toNat / 100) := h.fee hf
      rw [h.wn, ef]
theorem soM_V {m N : AM} {k p : Int} (hQ : QR m) (hF : FQ m N) (hR : RA N) (hk : 0 ≤ k ∧ k ≤ 1) (hp : 0 ≤ p ∧ p < mi m 86 70) : (soM N k p).1 = soV m k p := by
  have h3 := hQ.i.a 133 0 1 (by decide) p.toNat
  have hP := hQ.1.2 p hp.1 hp.2
  have e : ∀ c j, (c = 123 ∨ c = 124) ∨ (133 ≤ c ∧ c ≤ 137) → mi N c j = mi m c j := fun c j hc => hF.qu.2.2.1 c j (by unfold NQ; omega)
  unfold soM soV
  simp only [e 123 _ (by decide), e 124 _ (by decide), e 133 _ (by decide), e 134 _ (by decide), e 135 _ (by decide), hF.qu.gap]
  by_cases c1 : mi m 133 p.toNat = 1
  · have q := hP.1 c1
    have n1 : ¬ mi m 134 p.toNat < 3 := by omega
    have n2 : ¬ mi m 133 p.toNat = 0 := by omega
    rw [if_pos c1, if_neg n1, if_neg n2]
    have g := aiM_k N
    have J := ref_run (m := m) (N := aiM N) (f := mi m 135 p.toNat / 100) (n := mi m 135 p.toNat % 100) hQ hR.1.1.asIs hF.asIs g.1 g.2.1 g.2.2 ⟨by omega, by rw [hQ.2.2.1.1]; omega⟩ (by omega) (by omega)
    have j := J.2.2.2.1 (mi m 134 p.toNat - 10).toNat (by have := hQ.i.s 86 1 0 6 (by decide); omega)
    show (if mi (roM (aiM N) (mi m 135 p.toNat / 100) (mi m 135 p.toNat % 100)) 111 (mi m 134 p.toNat - 10).toNat = 0 then (1 : Int) else 0) = _
    rw [j]
    show _ = (if (zwFull (wN m) (feF m (fl m (mi m 135 p.toNat / 100))) (mi m 135 p.toNat % 100)).fa (mi m 134 p.toNat - 10).toNat = 0 then (1 : Int) else 0)
    by_cases c2 : (zwFull (wN m) (feF m (fl m (mi m 135 p.toNat / 100))) (mi m 135 p.toNat % 100)).fa (mi m 134 p.toNat - 10).toNat = 0
    · simp [c2]
    · simp [c2]
  · have q := hP.2.1 c1
    rw [if_neg c1]
    by_cases c2 : mi m 134 p.toNat ≥ 10
    · have n1 : ¬ mi m 134 p.toNat < 3 := by omega
      have n2 : mi m 133 p.toNat = 0 := by omega
      rw [if_pos c2, if_neg n1, if_pos n2]
    · have n1 : mi m 134 p.toNat < 3 := by omega
      rw [if_neg c2, if_pos n1, show (3 * k) + mi m 134 p.toNat = (k * 3) + mi m 134 p.toNat by omega]

set_option maxRecDepth 20000 in
set_option maxHeartbeats 4000000 in
/-- isSo() of the class -/
theorem ct_isSo {G : QW} {m : AM} {k p : Int} (h : QR m) (h4 : K4 m) (h6 : K6 m) (hk : 0 ≤ k ∧ k ≤ 1) (hp : 0 ≤ p ∧ p < mi m 86 70) : qM G mX11_isSo 6 0 0 [vR 0, vI k, vI p] m (fun r K => CU m K ∧ QR K ∧ r = some (vI (soV m k p))) := by
  have hS := h.s
  have hI := h.i
  have h17 := hI.s 0 17 0 8 (by decide)
  have h16 := hI.s 0 16 0 6 (by decide)
  have h70 := hI.s 86 70 0 20 (by decide)
  have h16e : mi m 0 16 = mi m 86 1 := h.2.1.1
  have h17e : mi m 0 17 = mi m 86 21 := h.2.2.1.1
  obtain ⟨⟨g7, g8, g9⟩, -⟩ := h6.2.1 p hp.1 hp.2
  have hP := h.1.2 p hp.1 hp.2
  have h133 := hI.a 133 0 1 (by decide) p.toNat
  refine qM.intro okX11_isSo (Nat.le_of_ble_eq_true rfl) ?_
  refine j_aload_n rfl rfl ?_
  refine j_getR (q := 6) rfl f_X11_37 rfl (hS.lt (by decide)) (hS.k (by decide) (by decide)) (hS.r (by decide)) ?_
  refine j_getR (q := 8) rfl f_X11_454 rfl (hS.lt (by decide)) (hS.k (by decide) (by decide)) (hS.r (by decide)) ?_
  refine j_iload_n rfl rfl ?_
  refine j_iald (n := 20) rfl (hS.lt (by decide)) (hS.k (by decide) (by decide)) (hS.n (by decide) (by decide)) (by omega) (by omega) (by decide) ?_
  have u8_1 := hI.a 8 (0) 15 (by decide) p.toNat
  rw [g8]
  refine j_istore_n rfl (by decide) ?_
  refine j_aload_n rfl rfl ?_
  refine j_getR (q := 6) rfl f_X11_37 rfl (hS.lt (by decide)) (hS.k (by decide) (by decide)) (hS.r (by decide)) ?_
  refine j_getR (q := 9) rfl f_X11_457 rfl (hS.lt (by decide)) (hS.k (by decide) (by decide)) (hS.r (by decide)) ?_
  refine j_iload_n rfl rfl ?_
  refine j_iald (n := 20) rfl (hS.lt (by decide)) (hS.k (by decide) (by decide)) (hS.n (by decide) (by decide)) (by omega) (by omega) (by decide) ?_
  have u18_1 := mi_rng m 9 p.toNat
  rw [g9]
  refine j_istore rfl (by decide) ?_
  refine j_iload_n rfl rfl ?_
  refine j_iconst rfl ?_
  refine j_icmp_ge (tgt := 38) rfl (by decide) (by omega) (by omega) (by omega) (by omega) (fun hb23_1 => ?_) (fun hb23_1 => ?_)
  · skip
    refine j_iload_n rfl rfl ?_
    refine j_bipush rfl (by decide) ?_
    refine j_isub rfl ?_
    refine j_istore rfl (by decide) ?_
    refine j_aload_n rfl rfl ?_
    refine j_getR (q := 6) rfl f_X11_37 rfl (hS.lt (by decide)) (hS.k (by decide) (by decide)) (hS.r (by decide)) ?_
    refine j_getR (q := 7) rfl f_X11_463 rfl (hS.lt (by decide)) (hS.k (by decide) (by decide)) (hS.r (by decide)) ?_
    refine j_iload_n rfl rfl ?_
    refine j_iald (n := 20) rfl (hS.lt (by decide)) (hS.k (by decide) (by decide)) (hS.n (by decide) (by decide)) (by omega) (by omega) (by decide) ?_
    have u52_1 := hI.a 7 (0) 1 (by decide) p.toNat
    rw [g7]
    refine j_if_ne (tgt := 80) rfl (by decide) (by omega) (by omega) (fun hb53_1 => ?_) (fun hb53_1 => ?_)
    · skip
      have hb := hP.1 (by omega)
      refine j_aload_n rfl rfl ?_
      refine j_aload_n rfl rfl ?_
      refine j_getR (q := 40) rfl f_X11_72 rfl (hS.lt (by decide)) (hS.k (by decide) (by decide)) (hS.r (by decide)) ?_
      refine j_aload_n rfl rfl ?_
      refine j_getR (q := 4) rfl f_X11_24 rfl (hS.lt (by decide)) (hS.k (by decide) (by decide)) (hS.r (by decide)) ?_
      refine j_iload rfl rfl ?_
      refine j_bipush rfl (by decide) ?_
      refine j_idivN rfl (by omega) (by omega) (by omega) (by omega) ?_
      refine j_aald (k := 18) (n := 8) (v := (fl m (mi m 135 p.toNat / 100))) rfl (hS.lt (by decide)) (hS.k (by decide) (by decide)) el18 (hS.n (by decide) (by decide)) (by omega) (by omega) (by decide) (h.flt (by omega) (by omega)).1.1 ?_
      refine j_iload rfl rfl ?_
      refine j_bipush rfl (by decide) ?_
      refine j_iremN rfl (by omega) (by omega) (by omega) (by omega) ?_
      refine j_iconst rfl ?_
      refine j_iload rfl rfl ?_
      refine j_ishl rfl ?_
      have z103_1 := z_ishl_rng 1 ((mi m 134 p.toNat) - 10)
      refine j_callV (ci := 11) rfl okX11_fly c_X11_197 (ct_flyC h (CU.rf m) h (o := 40) (f := mi m 135 p.toNat / 100) (n := mi m 135 p.toNat % 100) (u := z_ishl 1 (mi m 134 p.toNat - 10)) (by unfold sto; omega) (by omega) (z_ishl_rng _ _) (by omega) (by omega)) rfl rfl (hS.lt (by decide)) (hS.k (by decide) (by decide)) (by decide) rfl (Nat.le_of_ble_eq_true rfl) (by decide) (by decide) ?_
      rintro vq K ⟨e1, ⟨hT, hJ, -⟩, hC2, hQ2⟩
      rw [e1]
      clear e1
      simp only [Option.toList_some, Option.toList_none, List.cons_append, List.nil_append]
      have hS := hQ2.s
      have hI := hQ2.i
      have eb : mi K 43 (mi m 134 p.toNat - 10).toNat = (zwFly (wN m) (feF m (fl m (mi m 135 p.toNat / 100))) (mi m 135 p.toNat % 100) (z_ishl 1 (mi m 134 p.toNat - 10))).fa (mi m 134 p.toNat - 10).toNat := hJ.2.2.1 (mi m 134 p.toNat - 10).toNat (by omega)
      rw [zwFly_1 _ _ _ (by omega)] at eb
      refine j_aload_n rfl rfl ?_
      refine j_getR (q := 40) rfl f_X11_72 rfl (hS.lt (by decide)) (hS.k (by decide) (by decide)) (hS.r (by decide)) ?_
      refine j_getR (q := 43) rfl f_X11_210 rfl (hS.lt (by decide)) (hS.k (by decide) (by decide)) (hS.r (by decide)) ?_
      refine j_iload rfl rfl ?_
      refine j_iald (n := 6) rfl (hS.lt (by decide)) (hS.k (by decide) (by decide)) (hS.n (by decide) (by decide)) (by omega) (by omega) (by decide) ?_
      have u116_1 := mi_rng K 43 ((mi m 134 p.toNat) - 10).toNat
      rw [eb]
      refine j_if_ne (tgt := 124) rfl (by decide) (by omega) (by omega) (fun hb117_1 => ?_) (fun hb117_1 => ?_)
      · skip
        refine j_iconst rfl ?_
        refine j_zret rfl rfl (by decide) ?_ rfl (Nat.le_refl _)
        refine ⟨hC2, hQ2, ?_⟩
        unfold soV
        rw [if_neg (by omega), if_neg (by omega)]
        show _ = some (vI (if (zwFull (wN m) (feF m (fl m (mi m 135 p.toNat / 100))) (mi m 135 p.toNat % 100)).fa (mi m 134 p.toNat - 10).toNat = 0 then 1 else 0))
        rw [if_neg (by omega)]
      · skip
        refine j_iconst rfl ?_
        refine j_goto (tgt := 125) rfl (by decide) ?_
        refine j_zret rfl rfl (by decide) ?_ rfl (Nat.le_refl _)
        refine ⟨hC2, hQ2, ?_⟩
        unfold soV
        rw [if_neg (by omega), if_neg (by omega)]
        show _ = some (vI (if (zwFull (wN m) (feF m (fl m (mi m 135 p.toNat / 100))) (mi m 135 p.toNat % 100)).fa (mi m 134 p.toNat - 10).toNat = 0 then 1 else 0))
        rw [if_pos (by omega)]
    · skip
      have hb := hP.2.1 (by omega)
      have hB := h.2.1.2 (mi m 134 p.toNat - 10) (by omega) (by show mi m 134 p.toNat - 10 < mi m 86 1; omega)
      have hB := hB.1
      refine j_aload_n rfl rfl ?_
      refine j_getR (q := 12) rfl f_X11_44 rfl (hS.lt (by decide)) (hS.k (by decide) (by decide)) (hS.r (by decide)) ?_
      refine j_iload_n rfl rfl ?_
      refine j_aload_n rfl rfl ?_
      refine j_getR (q := 3) rfl f_X11_18 rfl (hS.lt (by decide)) (hS.k (by decide) (by decide)) (hS.r (by decide)) ?_
      refine j_iload rfl rfl ?_
      refine j_aald (k := 17) (n := 6) (v := (bx m (mi m 134 p.toNat - 10))) rfl (hS.lt (by decide)) (hS.k (by decide) (by decide)) el17 (hS.n (by decide) (by decide)) (by omega) (by omega) (by decide) hB.1.1 ?_
      refine j_callV (ci := 8) rfl okX8_gapsOf c_X11_274 (ct_gapsOfC h h4 hk (b := mi m 134 p.toNat - 10) (by omega)) rfl rfl (hS.lt (by decide)) (hS.k (by decide) (by decide)) (by decide) rfl (Nat.le_of_ble_eq_true rfl) (by decide) (by decide) ?_
      rintro vq K ⟨hpK, e1⟩
      rw [e1]
      clear e1
      simp only [Option.toList_some, Option.toList_none, List.cons_append, List.nil_append]
      have hgr := gapX_rng m k (mi m 134 p.toNat - 10)
      refine j_if_ne (tgt := 78) rfl (by decide) (by omega) (by omega) (fun hb71_1 => ?_) (fun hb71_1 => ?_)
      · skip
        refine j_iconst rfl ?_
        refine j_zret rfl rfl (by decide) ?_ rfl (Nat.le_refl _)
        refine ⟨hpK.cu, hpK.qr h, ?_⟩
        unfold soV
        rw [if_neg (by omega), if_pos (by omega), if_neg (by omega)]
      · skip
        refine j_iconst rfl ?_
        refine j_goto (tgt := 79) rfl (by decide) ?_
        refine j_zret rfl rfl (by decide) ?_ rfl (Nat.le_refl _)
        refine ⟨hpK.cu, hpK.qr h, ?_⟩
        unfold soV
        rw [if_neg (by omega), if_pos (by omega), if_pos (by omega)]
  · skip
    have hb : 0 ≤ mi m 134 p.toNat ∧ mi m 134 p.toNat ≤ 2 ∧ 0 ≤ mi m 135 p.toNat ∧ mi m 135 p.toNat ≤ 99999 := by have q1 := hP.1; have q2 := hP.2.1; omega
    refine j_aload_n rfl rfl ?_
    refine j_getR (q := 12) rfl f_X11_44 rfl (hS.lt (by decide)) (hS.k (by decide) (by decide)) (hS.r (by decide)) ?_
    refine j_iload_n rfl rfl ?_
    refine j_iload_n rfl rfl ?_
    refine j_iload rfl rfl ?_
    refine j_callV (ci := 8) rfl okX8_isWithinSize c_X11_460 (ct_X8_isWithinSize hS hI (by omega) (by omega) (by omega) (by omega) (by omega) (by omega) (by omega) (by omega) (by omega)) rfl rfl (hS.lt (by decide)) (hS.k (by decide) (by decide)) (by decide) rfl (Nat.le_of_ble_eq_true rfl) (by decide) (by decide) ?_
    rintro vq mq ⟨e1, e2⟩
    rw [e1, e2]
    clear e1 e2
    simp only [Option.toList_some, Option.toList_none, List.cons_append, List.nil_append]
    have w1 := hI.a 134 (0) 15 (by decide) p.toNat
    have q4 := h4 ((k * 3) + mi m 134 p.toNat).toNat (by omega)
    rw [q4.1, q4.2]
    refine j_zret rfl rfl (by split <;> decide) ?_ rfl (Nat.le_refl _)
    refine ⟨CU.rf m, h, ?_⟩
    have n1 : mi m 134 p.toNat < 3 := by omega
    unfold soV
    rw [if_pos n1]


theorem look_off {ps : List (Int × Int)} {dflt a : Int} (h : ∀ q ∈ ps, q.1 ≠ a) : Op.lookupswitch.offset ps dflt a = dflt := by
  induction ps with
  | nil => rfl
  | cons q t ih =>
    have hq := h q (List.mem_cons_self ..)
    have it := ih (fun r hr => h r (List.mem_cons_of_mem _ hr))
    obtain ⟨x, y⟩ := q
    have hx : x ≠ a := hq
    unfold Op.lookupswitch.offset
    rw [if_neg hx]
    exact it
def CtP (G : QW) (md : MD) (d : Nat) (o : Int) (f : (Int → Int) → PSt → PRes) : Prop := ∀ (m : AM) (a : Int) (w : List (Nat × Int)), St m → IM m → PS m a o w → 0 ≤ a → a ≤ mi m 86 16 → (w.length : Int) ≤ a → qM G md d 0 0 [vR 86] m (fun r m' => r = none ∧ PR m m' a o w (f (chR m) (a, w)))
theorem pO_r {c : Int → Int} {six : Bool} {sub : Option ((PSt → PRes) × (PSt → PRes))} {s : PSt} (h : c s.1 = 114) : pOpd c six sub s = pIdx c 1 7 s := by unfold pOpd; rw [if_pos h]
theorem pO_i {c : Int → Int} {six : Bool} {sub : Option ((PSt → PRes) × (PSt → PRes))} {s : PSt} (h : c s.1 = 105) : pOpd c six sub s = pIdx c 2 3 s := by unfold pOpd; rw [if_neg (by omega), if_pos h]
theorem pO_f {c : Int → Int} {six : Bool} {sub : Option ((PSt → PRes) × (PSt → PRes))} {s : PSt} (h : c s.1 = 102) : pOpd c six sub s = pIdx c 3 2 s := by unfold pOpd; rw [if_neg (by omega), if_neg (by omega), if_pos h]
theorem pO_t {c : Int → Int} {six : Bool} {sub : Option ((PSt → PRes) × (PSt → PRes))} {s : PSt} (h : c s.1 = 116) : pOpd c six sub s = .ok (s.1 + 1, s.2 ++ [(4, 0)]) := by unfold pOpd; rw [if_neg (by omega), if_neg (by omega), if_neg (by omega), if_pos h]
theorem pO_e {c : Int → Int} {six : Bool} {sub : Option ((PSt → PRes) × (PSt → PRes))} {s : PSt} (h : c s.1 = 101) : pOpd c six sub s = .ok (s.1 + 1, s.2 ++ [(5, 0)]) := by unfold pOpd; rw [if_neg (by omega), if_neg (by omega), if_neg (by omega), if_neg (by omega), if_pos h]
theorem pO_n0 {c : Int → Int} {six : Bool} {s : PSt} (h : c s.1 = 45 ∨ c s.1 = 40) : pOpd c six none s = .error s.1 := by
  unfold pOpd
  rw [if_neg (by omega), if_neg (by omega), if_neg (by omega), if_neg (by omega), if_neg (by omega)]
  rcases h with h | h
  · rw [if_pos h]
  · rw [if_neg (by omega), if_pos h]
theorem pO_n {c : Int → Int} {six : Bool} {g : (PSt → PRes) × (PSt → PRes)} {s : PSt} (h : c s.1 = 45) : pOpd c six (some g) s = pThen (g.1 (s.1 + 1, s.2)) (fun q => .ok (q.1, q.2 ++ [(6, 0)])) := by unfold pOpd; rw [if_neg (by omega), if_neg (by omega), if_neg (by omega), if_neg (by omega), if_neg (by omega), if_pos h]
theorem pO_p {c : Int → Int} {six : Bool} {g : (PSt → PRes) × (PSt → PRes)} {s : PSt} (h : c s.1 = 40) : pOpd c six (some g) s = pThen (g.2 (s.1 + 1, s.2)) (fun q => if c q.1 = 41 then .ok (q.1 + 1, q.2) else .error q.1) := by unfold pOpd; rw [if_neg (by omega), if_neg (by omega), if_neg (by omega), if_neg (by omega), if_neg (by omega), if_neg (by omega), if_pos h]
theorem pO_d {c : Int → Int} {six : Bool} {sub : Option ((PSt → PRes) × (PSt → PRes))} {s : PSt} (h : c s.1 ≠ 114 ∧ c s.1 ≠ 105 ∧ c s.1 ≠ 102 ∧ c s.1 ≠ 116 ∧ c s.1 ≠ 101 ∧ c s.1 ≠ 45 ∧ c s.1 ≠ 40) : pOpd c six sub s = pNum c six s := by unfold pOpd; rw [if_neg (by omega), if_neg (by omega), if_neg (by omega), if_neg (by omega), if_neg (by omega), if_neg (by omega), if_neg (by omega)]
theorem PX.weak {N : AM} {b len p : Int} (h : PX N b len p) {a len0 : Int} (h1 : a ≤ b) (h2 : len ≤ len0 + (b - a)) : PX N a len0 p := by
  obtain ⟨e1, e2, e3, e4, e5, e6⟩ := h
  exact ⟨e1, e2, by omega, e4, e5, by omega⟩
theorem PX.nest {N : AM} {b len p : Int} (h : PX N b len p) (v : Int) : PX (si N 86 19 v) b len p := by
  obtain ⟨e1, e2, e3, e4, e5, e6⟩ := h
  have n : ∀ k, k ≠ 19 → mi (si N 86 19 v) 86 k = mi N 86 k := fun k hk => mi_si_ne _ _ (by omega)
  exact ⟨(n 18 (by decide)).trans e1, e2, by rw [n 17 (by decide)]; exact e3, by rw [n 17 (by decide), n 16 (by decide)]; exact e4, by rw [n 20 (by decide)]; exact e5, by rw [n 20 (by decide), n 17 (by decide)]; exact e6⟩

set_option maxRecDepth 20000 in
set_option maxHeartbeats 8000000 in
theorem ct_X12_operand {G : QW} {k : Nat} {o : Int} (hok : o + k = 6) (ho0 : 0 ≤ o) (hsub : ∀ k2 : Nat, k = k2 + 1 → CtP G mX12_operand (2 + 6 * k2) (o + 1) (fun c => pOpd c true (pSub c true k2)) ∧ CtP G mX12_either (7 + 6 * k2) (o + 1) (fun c => pEx c (pOpd c true (pSub c true k2)))) : CtP G mX12_operand (2 + 6 * k) o (fun c => pOpd c true (pSub c true k)) := by
  intro m a w hS hI0 h ha0 ha1 hl
  refine qM.intro okX12_operand (Nat.le_of_ble_eq_true rfl) ?_
  have hRB := RBn (2 + 6 * k)
  have htp := hI0.s 86 16 0 160 (by decide)
  have h20 : mi m 86 20 = w.length := h.2.2.2.1
  refine j_aload_n rfl rfl ?_
  refine j_callV (ci := 12) rfl okX12_look c_X12_225 (ct_X12_look ((FP.rf m).st hS) hI0 (by rw [h.1]; omega) (by rw [h.1]; omega)) rfl rfl (((FP.rf m).st hS).lt (by decide)) (((FP.rf m).st hS).k (by decide) (by decide)) (by decide) rfl (Nat.le_of_ble_eq_true rfl) (RB.call hRB (by omega) (by decide)) ⟨Nat.le_refl _, Nat.le_refl _⟩ ?_
  rintro vq mq ⟨e1, e2⟩
  rw [(FP.rf m).ch, h.1] at e1
  rw [e1, e2]
  clear e1 e2
  simp only [Option.toList_some, Option.toList_none, List.cons_append, List.nil_append]
  have cr1 := chR_rng hI0 a
  by_cases hs4_1_40 : (chR m a) = 40
  · skip
    refine j_lookup (tgt := 165) rfl (by omega) (by omega) (by decide) (by rw [hs4_1_40] <;> rfl) (by decide) ?_
    refine j_aload_n rfl rfl ?_
    refine j_callV (ci := 12) rfl okX12_opens c_X12_236 (ct_X12_opens hS hI0 h ha0 ha1 hl (by omega)) rfl rfl (((FP.rf m).st hS).lt (by decide)) (((FP.rf m).st hS).k (by decide) (by decide)) (by decide) rfl (Nat.le_of_ble_eq_true rfl) (RB.call hRB (by omega) (by decide)) ⟨Nat.le_refl _, Nat.le_refl _⟩ ?_
    rintro vq mq hop
    rcases hop with ⟨ho6, e1, e2⟩ | ⟨ho6, e1, e2⟩
    · rw [e1, e2]
      simp only [Option.toList_some, Option.toList_none, List.cons_append, List.nil_append]
      refine j_if_ne (tgt := 173) rfl (by decide) (by omega) (by omega) (fun hb169_1 => ?_) (fun hb169_1 => ?_)
      · skip
        exfalso; omega
      · skip
        refine j_vret rfl rfl ?_ rfl (Nat.le_refl _)
        obtain rfl : k = 0 := by omega
        exact ⟨rfl, by rw [show pSub (chR m) true 0 = none from rfl, pO_n0 (s := (a, w)) (by dsimp only; omega)]; exact ⟨(FP.rf m).one (o := 86) (k := 18) (Or.inr (by omega)) a, hI0.read (k := 18) (by omega) a, h.bad ha0 ha1 (by omega) (Int.le_refl _) (by omega)⟩⟩
    · rw [e1, e2]
      simp only [Option.toList_some, Option.toList_none, List.cons_append, List.nil_append]
      have hPa := (h.nest (b := o + 1) (by omega) (by omega)).adv (b := a + 1) (by omega) (by omega)
      have hFa := ((FP.rf m).one (o := 86) (k := 19) (Or.inr (by omega)) (o + 1)).one (o := 86) (k := 17) (Or.inr (by omega)) (a + 1)
      have hIa := (hI0.read (k := 19) (by omega) (o + 1)).read (k := 17) (by omega) (a + 1)
      generalize si (si m 86 19 (o + 1)) 86 17 (a + 1) = Na at hPa hFa hIa ⊢
      obtain ⟨k2, rfl⟩ : ∃ k2, k = k2 + 1 := ⟨k - 1, by omega⟩
      have hlt := lt_end (chR_end m) (a := a) (by omega)
      have hg := pSub_good (chR_end m) true (k2 + 1) _ rfl
      have eNa : mi Na 86 16 = mi m 86 16 := hFa.cell (by decide) (by decide)
      refine j_if_ne (tgt := 173) rfl (by decide) (by omega) (by omega) (fun hb169_2 => ?_) (fun hb169_2 => ?_)
      · skip
        refine j_aload_n rfl rfl ?_
        refine j_callV (ci := 12) rfl okX12_either c_X12_243 ((hsub k2 rfl).2 Na (a + 1) w (hFa.st hS) hIa hPa (by omega) (by omega) (by omega)) rfl rfl ((hFa.st hS).lt (by decide)) ((hFa.st hS).k (by decide) (by decide)) (by decide) rfl (Nat.le_of_ble_eq_true rfl) (RB.call hRB (by omega) (by decide)) ⟨Nat.le_refl _, Nat.le_refl _⟩ ?_
        rintro vq N2 ⟨e1, hR⟩
        rw [e1]
        clear e1
        simp only [Option.toList_some, Option.toList_none, List.nil_append]
        rw [hFa.ch] at hR
        have hG := hg.2 (a + 1) w (by omega) (by omega)
        cases hres : (fun c => pEx c (pOpd c true (pSub c true k2))) (chR m) (a + 1, w) with
        | error p =>
          rw [hres] at hR
          obtain ⟨hFb, hIb, hX⟩ := hR
          have hX : PX N2 (a + 1) w.length p := hX
          have hFc := hFa.trans hFb
          have hX0 := hX
          obtain ⟨x1, x2, x3, x4, x5, x6⟩ := hX0
          have ecN : mi N2 86 16 = mi m 86 16 := hFc.cell (by decide) (by decide)
          refine j_aload_n rfl rfl ?_
          refine j_getI rfl f_X12_213 rfl ((hFc.st hS).lt (by decide)) ((hFc.st hS).k (by decide) (by decide)) ?_
          have u178_1 := mi_rng N2 86 18
          refine j_if_lt (tgt := 185) rfl (by decide) (by omega) (by omega) (fun hb181_1 => ?_) (fun hb181_1 => ?_)
          · skip
            exfalso; omega
          · skip
            refine j_vret rfl rfl ?_ rfl (Nat.le_refl _)
            exact ⟨rfl, by rw [show pSub (chR m) true (k2 + 1) = some (pOpd (chR m) true (pSub (chR m) true k2), pEx (chR m) (pOpd (chR m) true (pSub (chR m) true k2))) from rfl, pO_p (s := (a, w)) (by dsimp only; omega)]; show PR m _ a o w (pThen ((fun c => pEx c (pOpd c true (pSub c true k2))) (chR m) (a + 1, w)) _); rw [hres]; exact ⟨hFc, hIb, hX.weak (by omega) (by omega)⟩⟩
        | ok q =>
          rw [hres] at hR
          obtain ⟨hFb, hIb, hPb⟩ := hR
          have hPb : PS N2 q.1 (o + 1) q.2 := hPb
          have hFc := hFa.trans hFb
          obtain ⟨g1, g2, w2, g3, g4, g5, -⟩ := hG.1 q hres
          have g7 : (q.2.length : Int) ≤ w.length + (q.1 - (a + 1)) := by rw [g3, List.length_append]; omega
          have e18 := hPb.2.1
          refine j_aload_n rfl rfl ?_
          refine j_getI rfl f_X12_213 rfl ((hFc.st hS).lt (by decide)) ((hFc.st hS).k (by decide) (by decide)) ?_
          have u178_2 := mi_rng N2 86 18
          refine j_if_lt (tgt := 185) rfl (by decide) (by omega) (by omega) (fun hb181_2 => ?_) (fun hb181_2 => ?_)
          · skip
            refine j_aload_n rfl rfl ?_
            refine j_callV (ci := 12) rfl okX12_look c_X12_225 (ct_X12_look (hFc.st hS) hIb (by rw [hPb.1]; omega) (by rw [hPb.1]; omega)) rfl rfl ((hFc.st hS).lt (by decide)) ((hFc.st hS).k (by decide) (by decide)) (by decide) rfl (Nat.le_of_ble_eq_true rfl) (RB.call hRB (by omega) (by decide)) ⟨Nat.le_refl _, Nat.le_refl _⟩ ?_
            rintro vq mq ⟨e1, e2⟩
            rw [hFc.ch, hPb.1] at e1
            rw [e1, e2]
            clear e1 e2
            simp only [Option.toList_some, Option.toList_none, List.cons_append, List.nil_append]
            have cr2 := chR_rng hI0 q.1
            refine j_bipush rfl (by decide) ?_
            refine j_icmp_eq (tgt := 199) rfl (by decide) (by omega) (by omega) (by omega) (by omega) (fun hb191_1 => ?_) (fun hb191_1 => ?_)
            · skip
              refine j_aload_n rfl rfl ?_
              refine j_dup rfl (Nat.ne_of_beq_eq_false rfl) ?_
              refine j_getI rfl f_X12_210 rfl ((hFc.st hS).lt (by decide)) ((hFc.st hS).k (by decide) (by decide)) ?_
              have u201_1 := mi_rng N2 86 17
              refine j_iconst rfl ?_
              refine j_iadd rfl ?_
              refine j_putI rfl f_X12_210 rfl ((hFc.st hS).lt (by decide)) ((hFc.st hS).k (by decide) (by decide)) ?_
              rw [hPb.1]
              have hP5 := hPb.adv (b := (q.1 + 1)) (by omega) (by omega)
              have hF4 := hFc.one (o := 86) (k := 17) (Or.inr (by omega)) (q.1 + 1)
              have hI6 := hIb.read (k := 17) (by omega) (q.1 + 1)
              generalize si N2 86 17 (q.1 + 1) = N3 at hP5 hF4 hI6 ⊢
              refine j_aload_n rfl rfl ?_
              refine j_dup rfl (Nat.ne_of_beq_eq_false rfl) ?_
              refine j_getI rfl f_X12_219 rfl ((hF4.st hS).lt (by decide)) ((hF4.st hS).k (by decide) (by decide)) ?_
              have u211_1 := mi_rng N3 86 19
              refine j_iconst rfl ?_
              refine j_isub rfl ?_
              refine j_putI rfl f_X12_219 rfl ((hF4.st hS).lt (by decide)) ((hF4.st hS).k (by decide) (by decide)) ?_
              rw [hP5.2.2.1]
              have hP9 := hP5.nest (b := ((o + 1) - 1)) (by omega) (by omega)
              have hF8 := hF4.one (o := 86) (k := 19) (Or.inr (by omega)) ((o + 1) - 1)
              have hI10 := hI6.read (k := 19) (by omega) ((o + 1) - 1)
              generalize si N3 86 19 ((o + 1) - 1) = N7 at hP9 hF8 hI10 ⊢
              rw [show o + 1 - 1 = o by omega] at hP9
              refine j_goto (tgt := 226) rfl (by decide) ?_
              refine j_vret rfl rfl ?_ rfl (Nat.le_refl _)
              exact ⟨rfl, by rw [show pSub (chR m) true (k2 + 1) = some (pOpd (chR m) true (pSub (chR m) true k2), pEx (chR m) (pOpd (chR m) true (pSub (chR m) true k2))) from rfl, pO_p (s := (a, w)) (by dsimp only; omega)]; show PR m _ a o w (pThen ((fun c => pEx c (pOpd c true (pSub c true k2))) (chR m) (a + 1, w)) _); rw [hres]; show PR m _ a o w (if chR m q.1 = 41 then .ok (q.1 + 1, q.2) else .error q.1); rw [if_pos (by omega)]; exact ⟨hF8, hI10, hP9⟩⟩
            · skip
              refine j_aload_n rfl rfl ?_
              refine j_callV (ci := 12) rfl okX12_wrong c_X12_222 (ct_X12_wrong (hFc.st hS) hIb) rfl rfl ((hFc.st hS).lt (by decide)) ((hFc.st hS).k (by decide) (by decide)) (by decide) rfl (Nat.le_of_ble_eq_true rfl) (RB.call hRB (by omega) (by decide)) ⟨Nat.le_refl _, Nat.le_refl _⟩ ?_
              rintro vq mq ⟨e1, e2⟩
              rw [if_neg (by rw [hPb.2.1]; decide), hPb.1] at e2
              rw [e1, e2]
              clear e1 e2
              simp only [Option.toList_some, Option.toList_none, List.cons_append, List.nil_append]
              have hFw := hFc.one (o := 86) (k := 18) (Or.inr (by omega)) q.1
              have hIw := hIb.read (k := 18) (by omega) q.1
              refine j_vret rfl rfl ?_ rfl (Nat.le_refl _)
              exact ⟨rfl, by rw [show pSub (chR m) true (k2 + 1) = some (pOpd (chR m) true (pSub (chR m) true k2), pEx (chR m) (pOpd (chR m) true (pSub (chR m) true k2))) from rfl, pO_p (s := (a, w)) (by dsimp only; omega)]; show PR m _ a o w (pThen ((fun c => pEx c (pOpd c true (pSub c true k2))) (chR m) (a + 1, w)) _); rw [hres]; show PR m _ a o w (if chR m q.1 = 41 then .ok (q.1 + 1, q.2) else .error q.1); rw [if_neg (by omega)]; exact ⟨hFw, hIw, hPb.bad (by omega) (by rw [hFc.cell (by decide) (by decide)]; omega) (by omega) (by omega) (by omega)⟩⟩
          · skip
            exfalso; omega
      · skip
        exfalso; omega
  · skip
    by_cases hs4_1_45 : (chR m a) = 45
    · skip
      refine j_lookup (tgt := 133) rfl (by omega) (by omega) (by decide) (by rw [hs4_1_45] <;> rfl) (by decide) ?_
      refine j_aload_n rfl rfl ?_
      refine j_callV (ci := 12) rfl okX12_opens c_X12_236 (ct_X12_opens hS hI0 h ha0 ha1 hl (by omega)) rfl rfl (((FP.rf m).st hS).lt (by decide)) (((FP.rf m).st hS).k (by decide) (by decide)) (by decide) rfl (Nat.le_of_ble_eq_true rfl) (RB.call hRB (by omega) (by decide)) ⟨Nat.le_refl _, Nat.le_refl _⟩ ?_
      rintro vq mq hop
      rcases hop with ⟨ho6, e1, e2⟩ | ⟨ho6, e1, e2⟩
      · rw [e1, e2]
        simp only [Option.toList_some, Option.toList_none, List.cons_append, List.nil_append]
        refine j_if_ne (tgt := 141) rfl (by decide) (by omega) (by omega) (fun hb137_1 => ?_) (fun hb137_1 => ?_)
        · skip
          exfalso; omega
        · skip
          refine j_vret rfl rfl ?_ rfl (Nat.le_refl _)
          obtain rfl : k = 0 := by omega
          exact ⟨rfl, by rw [show pSub (chR m) true 0 = none from rfl, pO_n0 (s := (a, w)) (by dsimp only; omega)]; exact ⟨(FP.rf m).one (o := 86) (k := 18) (Or.inr (by omega)) a, hI0.read (k := 18) (by omega) a, h.bad ha0 ha1 (by omega) (Int.le_refl _) (by omega)⟩⟩
      · rw [e1, e2]
        simp only [Option.toList_some, Option.toList_none, List.cons_append, List.nil_append]
        have hPa := (h.nest (b := o + 1) (by omega) (by omega)).adv (b := a + 1) (by omega) (by omega)
        have hFa := ((FP.rf m).one (o := 86) (k := 19) (Or.inr (by omega)) (o + 1)).one (o := 86) (k := 17) (Or.inr (by omega)) (a + 1)
        have hIa := (hI0.read (k := 19) (by omega) (o + 1)).read (k := 17) (by omega) (a + 1)
        generalize si (si m 86 19 (o + 1)) 86 17 (a + 1) = Na at hPa hFa hIa ⊢
        obtain ⟨k2, rfl⟩ : ∃ k2, k = k2 + 1 := ⟨k - 1, by omega⟩
        have hlt := lt_end (chR_end m) (a := a) (by omega)
        have hg := pSub_good (chR_end m) true (k2 + 1) _ rfl
        have eNa : mi Na 86 16 = mi m 86 16 := hFa.cell (by decide) (by decide)
        refine j_if_ne (tgt := 141) rfl (by decide) (by omega) (by omega) (fun hb137_2 => ?_) (fun hb137_2 => ?_)
        · skip
          refine j_aload_n rfl rfl ?_
          refine j_callV (ci := 12) rfl okX12_operand c_X12_240 ((hsub k2 rfl).1 Na (a + 1) w (hFa.st hS) hIa hPa (by omega) (by omega) (by omega)) rfl rfl ((hFa.st hS).lt (by decide)) ((hFa.st hS).k (by decide) (by decide)) (by decide) rfl (Nat.le_of_ble_eq_true rfl) (RB.call hRB (by omega) (by decide)) ⟨Nat.le_refl _, Nat.le_refl _⟩ ?_
          rintro vq N2 ⟨e1, hR⟩
          rw [e1]
          clear e1
          simp only [Option.toList_some, Option.toList_none, List.nil_append]
          rw [hFa.ch] at hR
          have hG := hg.1 (a + 1) w (by omega) (by omega)
          cases hres : (fun c => pOpd c true (pSub c true k2)) (chR m) (a + 1, w) with
          | error p =>
            rw [hres] at hR
            obtain ⟨hFb, hIb, hX⟩ := hR
            have hX : PX N2 (a + 1) w.length p := hX
            have hFc := hFa.trans hFb
            have hX0 := hX
            obtain ⟨x1, x2, x3, x4, x5, x6⟩ := hX0
            have ecN : mi N2 86 16 = mi m 86 16 := hFc.cell (by decide) (by decide)
            refine j_aload_n rfl rfl ?_
            refine j_dup rfl (Nat.ne_of_beq_eq_false rfl) ?_
            refine j_getI rfl f_X12_219 rfl ((hFc.st hS).lt (by decide)) ((hFc.st hS).k (by decide) (by decide)) ?_
            have u147_1 := mi_rng N2 86 19
            refine j_iconst rfl ?_
            refine j_isub rfl ?_
            refine j_putI rfl f_X12_219 rfl ((hFc.st hS).lt (by decide)) ((hFc.st hS).k (by decide) (by decide)) ?_
            refine j_aload_n rfl rfl ?_
            refine j_bipush rfl (by decide) ?_
            refine j_iconst rfl ?_
            refine j_callV (ci := 12) rfl okX12_lay c_X12_229 (ct_X12_lay (hFc.st hS) (by omega) (by rw [show mi (si N2 86 19 _) 86 20 = mi N2 86 20 from mi_si_ne _ _ (by decide)]; omega) (by rw [show mi (si N2 86 19 _) 86 20 = mi N2 86 20 from mi_si_ne _ _ (by decide)]; omega)) rfl rfl ((hFc.st hS).lt (by decide)) ((hFc.st hS).k (by decide) (by decide)) (by decide) rfl (Nat.le_of_ble_eq_true rfl) (RB.call hRB (by omega) (by decide)) ⟨Nat.le_refl _, Nat.le_refl _⟩ ?_
            rintro vq mq ⟨e1, e2⟩
            rw [e1, e2]
            clear e1 e2
            simp only [Option.toList_some, Option.toList_none, List.nil_append]
            refine j_goto (tgt := 226) rfl (by decide) ?_
            refine j_vret rfl rfl ?_ rfl (Nat.le_refl _)
            exact ⟨rfl, by rw [show pSub (chR m) true (k2 + 1) = some (pOpd (chR m) true (pSub (chR m) true k2), pEx (chR m) (pOpd (chR m) true (pSub (chR m) true k2))) from rfl, pO_n (s := (a, w)) (by dsimp only; omega)]; show PR m _ a o w (pThen ((fun c => pOpd c true (pSub c true k2)) (chR m) (a + 1, w)) _); rw [hres]; exact ⟨layM_fp (hFc.one (o := 86) (k := 19) (Or.inr (by omega)) _) (by rw [mi_si_ne _ _ (by decide)]; omega), layM_im (hIb.read (k := 19) (by omega) _) (by decide) (by decide), layM_px (hX.nest _) 7 0 (by omega) (by omega) (by rw [mi_si_ne _ _ (by decide)]; omega)⟩⟩
          | ok q =>
            rw [hres] at hR
            obtain ⟨hFb, hIb, hPb⟩ := hR
            have hPb : PS N2 q.1 (o + 1) q.2 := hPb
            have hFc := hFa.trans hFb
            obtain ⟨g1, g2, w2, g3, g4, g5, -⟩ := hG.1 q hres
            have g7 : (q.2.length : Int) ≤ w.length + (q.1 - (a + 1)) := by rw [g3, List.length_append]; omega
            have e18 := hPb.2.1
            refine j_aload_n rfl rfl ?_
            refine j_dup rfl (Nat.ne_of_beq_eq_false rfl) ?_
            refine j_getI rfl f_X12_219 rfl ((hFc.st hS).lt (by decide)) ((hFc.st hS).k (by decide) (by decide)) ?_
            have u147_2 := mi_rng N2 86 19
            refine j_iconst rfl ?_
            refine j_isub rfl ?_
            refine j_putI rfl f_X12_219 rfl ((hFc.st hS).lt (by decide)) ((hFc.st hS).k (by decide) (by decide)) ?_
            rw [hPb.2.2.1]
            have hP13 := hPb.nest (b := ((o + 1) - 1)) (by omega) (by omega)
            have hF12 := hFc.one (o := 86) (k := 19) (Or.inr (by omega)) ((o + 1) - 1)
            have hI14 := hIb.read (k := 19) (by omega) ((o + 1) - 1)
            generalize si N2 86 19 ((o + 1) - 1) = N11 at hP13 hF12 hI14 ⊢
            rw [show o + 1 - 1 = o by omega] at hP13
            refine j_aload_n rfl rfl ?_
            refine j_bipush rfl (by decide) ?_
            refine j_iconst rfl ?_
            refine j_callV (ci := 12) rfl okX12_lay c_X12_229 (ct_X12_lay (hF12.st hS) (by omega) (by rw [hP13.2.2.2.1]; omega) (by rw [hP13.2.2.2.1]; omega)) rfl rfl ((hF12.st hS).lt (by decide)) ((hF12.st hS).k (by decide) (by decide)) (by decide) rfl (Nat.le_of_ble_eq_true rfl) (RB.call hRB (by omega) (by decide)) ⟨Nat.le_refl _, Nat.le_refl _⟩ ?_
            rintro vq mq ⟨e1, e2⟩
            rw [e1, e2]
            clear e1 e2
            simp only [Option.toList_some, Option.toList_none, List.nil_append]
            have hP17 := layM_ps (what := 7) (v := 0) hP13 (by omega) (by omega) (by omega)
            have hF16 := layM_fp (what := 7) (v := 0) hF12 (by rw [hP13.2.2.2.1]; omega)
            have hI18 := layM_im (what := 7) (v := 0) hI14 (by omega) (by omega)
            generalize layM N11 7 0 = N15 at hP17 hF16 hI18 ⊢
            refine j_goto (tgt := 226) rfl (by decide) ?_
            refine j_vret rfl rfl ?_ rfl (Nat.le_refl _)
            exact ⟨rfl, by rw [show pSub (chR m) true (k2 + 1) = some (pOpd (chR m) true (pSub (chR m) true k2), pEx (chR m) (pOpd (chR m) true (pSub (chR m) true k2))) from rfl, pO_n (s := (a, w)) (by dsimp only; omega)]; show PR m _ a o w (pThen ((fun c => pOpd c true (pSub c true k2)) (chR m) (a + 1, w)) _); rw [hres]; exact ⟨hF16, hI18, hP17⟩⟩
        · skip
          exfalso; omega
    · skip
      by_cases hs4_1_101 : (chR m a) = 101
      · skip
        refine j_lookup (tgt := 100) rfl (by omega) (by omega) (by decide) (by rw [hs4_1_101] <;> rfl) (by decide) ?_
        refine j_aload_n rfl rfl ?_
        refine j_aload_n rfl rfl ?_
        refine j_callV (ci := 12) rfl okX12_look c_X12_225 (ct_X12_look ((FP.rf m).st hS) hI0 (by rw [h.1]; omega) (by rw [h.1]; omega)) rfl rfl (((FP.rf m).st hS).lt (by decide)) (((FP.rf m).st hS).k (by decide) (by decide)) (by decide) rfl (Nat.le_of_ble_eq_true rfl) (RB.call hRB (by omega) (by decide)) ⟨Nat.le_refl _, Nat.le_refl _⟩ ?_
        rintro vq mq ⟨e1, e2⟩
        rw [(FP.rf m).ch, h.1] at e1
        rw [e1, e2]
        clear e1 e2
        simp only [Option.toList_some, Option.toList_none, List.cons_append, List.nil_append]
        have cr19 := chR_rng hI0 a
        refine j_bipush rfl (by decide) ?_
        refine j_icmp_ne (tgt := 114) rfl (by decide) (by omega) (by omega) (by omega) (by omega) (fun hb107_1 => ?_) (fun hb107_1 => ?_)
        · skip
          refine j_bipush rfl (by decide) ?_
          refine j_iconst rfl ?_
          refine j_callV (ci := 12) rfl okX12_lay c_X12_229 (ct_X12_lay ((FP.rf m).st hS) (by omega) (by rw [h.2.2.2.1]; omega) (by rw [h.2.2.2.1]; omega)) rfl rfl (((FP.rf m).st hS).lt (by decide)) (((FP.rf m).st hS).k (by decide) (by decide)) (by decide) rfl (Nat.le_of_ble_eq_true rfl) (RB.call hRB (by omega) (by decide)) ⟨Nat.le_refl _, Nat.le_refl _⟩ ?_
          rintro vq mq ⟨e1, e2⟩
          rw [e1, e2]
          clear e1 e2
          simp only [Option.toList_some, Option.toList_none, List.nil_append]
          have hP22 := layM_ps (what := 6) (v := 0) h (by omega) (by omega) (by omega)
          have hF21 := layM_fp (what := 6) (v := 0) (FP.rf m) (by rw [h.2.2.2.1]; omega)
          have hI23 := layM_im (what := 6) (v := 0) hI0 (by omega) (by omega)
          generalize layM m 6 0 = N20 at hP22 hF21 hI23 ⊢
          refine j_aload_n rfl rfl ?_
          refine j_dup rfl (Nat.ne_of_beq_eq_false rfl) ?_
          refine j_getI rfl f_X12_210 rfl ((hF21.st hS).lt (by decide)) ((hF21.st hS).k (by decide) (by decide)) ?_
          have u122_1 := mi_rng N20 86 17
          refine j_iconst rfl ?_
          refine j_iadd rfl ?_
          refine j_putI rfl f_X12_210 rfl ((hF21.st hS).lt (by decide)) ((hF21.st hS).k (by decide) (by decide)) ?_
          rw [hP22.1]
          have hP26 := hP22.adv (b := (a + 1)) (by omega) (by omega)
          have hF25 := hF21.one (o := 86) (k := 17) (Or.inr (by omega)) (a + 1)
          have hI27 := hI23.read (k := 17) (by omega) (a + 1)
          generalize si N20 86 17 (a + 1) = N24 at hP26 hF25 hI27 ⊢
          refine j_goto (tgt := 226) rfl (by decide) ?_
          refine j_vret rfl rfl ?_ rfl (Nat.le_refl _)
          exact ⟨rfl, by first | (rw [pO_t (s := (a, w)) (by dsimp only; omega)]; exact ⟨hF25, hI27, hP26⟩) | (rw [pO_e (s := (a, w)) (by dsimp only; omega)]; exact ⟨hF25, hI27, hP26⟩)⟩
        · skip
          refine j_iconst rfl ?_
          refine j_goto (tgt := 116) rfl (by decide) ?_
          refine j_iconst rfl ?_
          refine j_callV (ci := 12) rfl okX12_lay c_X12_229 (ct_X12_lay ((FP.rf m).st hS) (by omega) (by rw [h.2.2.2.1]; omega) (by rw [h.2.2.2.1]; omega)) rfl rfl (((FP.rf m).st hS).lt (by decide)) (((FP.rf m).st hS).k (by decide) (by decide)) (by decide) rfl (Nat.le_of_ble_eq_true rfl) (RB.call hRB (by omega) (by decide)) ⟨Nat.le_refl _, Nat.le_refl _⟩ ?_
          rintro vq mq ⟨e1, e2⟩
          rw [e1, e2]
          clear e1 e2
          simp only [Option.toList_some, Option.toList_none, List.nil_append]
          have hP30 := layM_ps (what := 5) (v := 0) h (by omega) (by omega) (by omega)
          have hF29 := layM_fp (what := 5) (v := 0) (FP.rf m) (by rw [h.2.2.2.1]; omega)
          have hI31 := layM_im (what := 5) (v := 0) hI0 (by omega) (by omega)
          generalize layM m 5 0 = N28 at hP30 hF29 hI31 ⊢
          refine j_aload_n rfl rfl ?_
          refine j_dup rfl (Nat.ne_of_beq_eq_false rfl) ?_
          refine j_getI rfl f_X12_210 rfl ((hF29.st hS).lt (by decide)) ((hF29.st hS).k (by decide) (by decide)) ?_
          have u122_2 := mi_rng N28 86 17
          refine j_iconst rfl ?_
          refine j_iadd rfl ?_
          refine j_putI rfl f_X12_210 rfl ((hF29.st hS).lt (by decide)) ((hF29.st hS).k (by decide) (by decide)) ?_
          rw [hP30.1]
          have hP34 := hP30.adv (b := (a + 1)) (by omega) (by omega)
          have hF33 := hF29.one (o := 86) (k := 17) (Or.inr (by omega)) (a + 1)
          have hI35 := hI31.read (k := 17) (by omega) (a + 1)
          generalize si N28 86 17 (a + 1) = N32 at hP34 hF33 hI35 ⊢
          refine j_goto (tgt := 226) rfl (by decide) ?_
          refine j_vret rfl rfl ?_ rfl (Nat.le_refl _)
          exact ⟨rfl, by first | (rw [pO_t (s := (a, w)) (by dsimp only; omega)]; exact ⟨hF33, hI35, hP34⟩) | (rw [pO_e (s := (a, w)) (by dsimp only; omega)]; exact ⟨hF33, hI35, hP34⟩)⟩
      · skip
        by_cases hs4_1_102 : (chR m a) = 102
        · skip
          refine j_lookup (tgt := 91) rfl (by omega) (by omega) (by decide) (by rw [hs4_1_102] <;> rfl) (by decide) ?_
          refine j_aload_n rfl rfl ?_
          refine j_iconst rfl ?_
          refine j_iconst rfl ?_
          refine j_callV (ci := 12) rfl okX12_indexed c_X12_233 (ct_X12_indexed hS hI0 h ha0 ha1 hl (lt_end (chR_end m) (a := a) (by omega)) (by omega) (by omega)) rfl rfl (((FP.rf m).st hS).lt (by decide)) (((FP.rf m).st hS).k (by decide) (by decide)) (by decide) rfl (Nat.le_of_ble_eq_true rfl) (RB.call hRB (by omega) (by decide)) ⟨Nat.le_refl _, Nat.le_refl _⟩ ?_
          rintro vq N2 ⟨e1, hR⟩
          rw [e1]
          clear e1
          simp only [Option.toList_some, Option.toList_none, List.nil_append]
          refine j_goto (tgt := 226) rfl (by decide) ?_
          refine j_vret rfl rfl ?_ rfl (Nat.le_refl _)
          exact ⟨rfl, by rw [pO_f (s := (a, w)) (by dsimp only; omega)]; exact hR⟩
        · skip
          by_cases hs4_1_105 : (chR m a) = 105
          · skip
            refine j_lookup (tgt := 82) rfl (by omega) (by omega) (by decide) (by rw [hs4_1_105] <;> rfl) (by decide) ?_
            refine j_aload_n rfl rfl ?_
            refine j_iconst rfl ?_
            refine j_iconst rfl ?_
            refine j_callV (ci := 12) rfl okX12_indexed c_X12_233 (ct_X12_indexed hS hI0 h ha0 ha1 hl (lt_end (chR_end m) (a := a) (by omega)) (by omega) (by omega)) rfl rfl (((FP.rf m).st hS).lt (by decide)) (((FP.rf m).st hS).k (by decide) (by decide)) (by decide) rfl (Nat.le_of_ble_eq_true rfl) (RB.call hRB (by omega) (by decide)) ⟨Nat.le_refl _, Nat.le_refl _⟩ ?_
            rintro vq N2 ⟨e1, hR⟩
            rw [e1]
            clear e1
            simp only [Option.toList_some, Option.toList_none, List.nil_append]
            refine j_goto (tgt := 226) rfl (by decide) ?_
            refine j_vret rfl rfl ?_ rfl (Nat.le_refl _)
            exact ⟨rfl, by rw [pO_i (s := (a, w)) (by dsimp only; omega)]; exact hR⟩
          · skip
            by_cases hs4_1_114 : (chR m a) = 114
            · skip
              refine j_lookup (tgt := 72) rfl (by omega) (by omega) (by decide) (by rw [hs4_1_114] <;> rfl) (by decide) ?_
              refine j_aload_n rfl rfl ?_
              refine j_iconst rfl ?_
              refine j_bipush rfl (by decide) ?_
              refine j_callV (ci := 12) rfl okX12_indexed c_X12_233 (ct_X12_indexed hS hI0 h ha0 ha1 hl (lt_end (chR_end m) (a := a) (by omega)) (by omega) (by omega)) rfl rfl (((FP.rf m).st hS).lt (by decide)) (((FP.rf m).st hS).k (by decide) (by decide)) (by decide) rfl (Nat.le_of_ble_eq_true rfl) (RB.call hRB (by omega) (by decide)) ⟨Nat.le_refl _, Nat.le_refl _⟩ ?_
              rintro vq N2 ⟨e1, hR⟩
              rw [e1]
              clear e1
              simp only [Option.toList_some, Option.toList_none, List.nil_append]
              refine j_goto (tgt := 226) rfl (by decide) ?_
              refine j_vret rfl rfl ?_ rfl (Nat.le_refl _)
              exact ⟨rfl, by rw [pO_r (s := (a, w)) (by dsimp only; omega)]; exact hR⟩
            · skip
              by_cases hs4_1_116 : (chR m a) = 116
              · skip
                refine j_lookup (tgt := 100) rfl (by omega) (by omega) (by decide) (by rw [hs4_1_116] <;> rfl) (by decide) ?_
                refine j_aload_n rfl rfl ?_
                refine j_aload_n rfl rfl ?_
                refine j_callV (ci := 12) rfl okX12_look c_X12_225 (ct_X12_look ((FP.rf m).st hS) hI0 (by rw [h.1]; omega) (by rw [h.1]; omega)) rfl rfl (((FP.rf m).st hS).lt (by decide)) (((FP.rf m).st hS).k (by decide) (by decide)) (by decide) rfl (Nat.le_of_ble_eq_true rfl) (RB.call hRB (by omega) (by decide)) ⟨Nat.le_refl _, Nat.le_refl _⟩ ?_
                rintro vq mq ⟨e1, e2⟩
                rw [(FP.rf m).ch, h.1] at e1
                rw [e1, e2]
                clear e1 e2
                simp only [Option.toList_some, Option.toList_none, List.cons_append, List.nil_append]
                have cr36 := chR_rng hI0 a
                refine j_bipush rfl (by decide) ?_
                refine j_icmp_ne (tgt := 114) rfl (by decide) (by omega) (by omega) (by omega) (by omega) (fun hb107_2 => ?_) (fun hb107_2 => ?_)
                · skip
                  refine j_bipush rfl (by decide) ?_
                  refine j_iconst rfl ?_
                  refine j_callV (ci := 12) rfl okX12_lay c_X12_229 (ct_X12_lay ((FP.rf m).st hS) (by omega) (by rw [h.2.2.2.1]; omega) (by rw [h.2.2.2.1]; omega)) rfl rfl (((FP.rf m).st hS).lt (by decide)) (((FP.rf m).st hS).k (by decide) (by decide)) (by decide) rfl (Nat.le_of_ble_eq_true rfl) (RB.call hRB (by omega) (by decide)) ⟨Nat.le_refl _, Nat.le_refl _⟩ ?_
                  rintro vq mq ⟨e1, e2⟩
                  rw [e1, e2]
                  clear e1 e2
                  simp only [Option.toList_some, Option.toList_none, List.nil_append]
                  have hP39 := layM_ps (what := 6) (v := 0) h (by omega) (by omega) (by omega)
                  have hF38 := layM_fp (what := 6) (v := 0) (FP.rf m) (by rw [h.2.2.2.1]; omega)
                  have hI40 := layM_im (what := 6) (v := 0) hI0 (by omega) (by omega)
                  generalize layM m 6 0 = N37 at hP39 hF38 hI40 ⊢
                  refine j_aload_n rfl rfl ?_
                  refine j_dup rfl (Nat.ne_of_beq_eq_false rfl) ?_
                  refine j_getI rfl f_X12_210 rfl ((hF38.st hS).lt (by decide)) ((hF38.st hS).k (by decide) (by decide)) ?_
                  have u122_3 := mi_rng N37 86 17
                  refine j_iconst rfl ?_
                  refine j_iadd rfl ?_
                  refine j_putI rfl f_X12_210 rfl ((hF38.st hS).lt (by decide)) ((hF38.st hS).k (by decide) (by decide)) ?_
                  rw [hP39.1]
                  have hP43 := hP39.adv (b := (a + 1)) (by omega) (by omega)
                  have hF42 := hF38.one (o := 86) (k := 17) (Or.inr (by omega)) (a + 1)
                  have hI44 := hI40.read (k := 17) (by omega) (a + 1)
                  generalize si N37 86 17 (a + 1) = N41 at hP43 hF42 hI44 ⊢
                  refine j_goto (tgt := 226) rfl (by decide) ?_
                  refine j_vret rfl rfl ?_ rfl (Nat.le_refl _)
                  exact ⟨rfl, by first | (rw [pO_t (s := (a, w)) (by dsimp only; omega)]; exact ⟨hF42, hI44, hP43⟩) | (rw [pO_e (s := (a, w)) (by dsimp only; omega)]; exact ⟨hF42, hI44, hP43⟩)⟩
                · skip
                  refine j_iconst rfl ?_
                  refine j_goto (tgt := 116) rfl (by decide) ?_
                  refine j_iconst rfl ?_
                  refine j_callV (ci := 12) rfl okX12_lay c_X12_229 (ct_X12_lay ((FP.rf m).st hS) (by omega) (by rw [h.2.2.2.1]; omega) (by rw [h.2.2.2.1]; omega)) rfl rfl (((FP.rf m).st hS).lt (by decide)) (((FP.rf m).st hS).k (by decide) (by decide)) (by decide) rfl (Nat.le_of_ble_eq_true rfl) (RB.call hRB (by omega) (by decide)) ⟨Nat.le_refl _, Nat.le_refl _⟩ ?_
                  rintro vq mq ⟨e1, e2⟩
                  rw [e1, e2]
                  clear e1 e2
                  simp only [Option.toList_some, Option.toList_none, List.nil_append]
                  have hP47 := layM_ps (what := 5) (v := 0) h (by omega) (by omega) (by omega)
                  have hF46 := layM_fp (what := 5) (v := 0) (FP.rf m) (by rw [h.2.2.2.1]; omega)
                  have hI48 := layM_im (what := 5) (v := 0) hI0 (by omega) (by omega)
                  generalize layM m 5 0 = N45 at hP47 hF46 hI48 ⊢
                  refine j_aload_n rfl rfl ?_
                  refine j_dup rfl (Nat.ne_of_beq_eq_false rfl) ?_
                  refine j_getI rfl f_X12_210 rfl ((hF46.st hS).lt (by decide)) ((hF46.st hS).k (by decide) (by decide)) ?_
                  have u122_4 := mi_rng N45 86 17
                  refine j_iconst rfl ?_
                  refine j_iadd rfl ?_
                  refine j_putI rfl f_X12_210 rfl ((hF46.st hS).lt (by decide)) ((hF46.st hS).k (by decide) (by decide)) ?_
                  rw [hP47.1]
                  have hP51 := hP47.adv (b := (a + 1)) (by omega) (by omega)
                  have hF50 := hF46.one (o := 86) (k := 17) (Or.inr (by omega)) (a + 1)
                  have hI52 := hI48.read (k := 17) (by omega) (a + 1)
                  generalize si N45 86 17 (a + 1) = N49 at hP51 hF50 hI52 ⊢
                  refine j_goto (tgt := 226) rfl (by decide) ?_
                  refine j_vret rfl rfl ?_ rfl (Nat.le_refl _)
                  exact ⟨rfl, by first | (rw [pO_t (s := (a, w)) (by dsimp only; omega)]; exact ⟨hF50, hI52, hP51⟩) | (rw [pO_e (s := (a, w)) (by dsimp only; omega)]; exact ⟨hF50, hI52, hP51⟩)⟩
              · skip
                refine j_lookup (off := 218) (tgt := 222) rfl (by omega) (by omega) (by decide) (look_off (by intro q hq; simp only [List.mem_cons, List.not_mem_nil, or_false] at hq; rcases hq with rfl | rfl | rfl | rfl | rfl | rfl | rfl <;> (dsimp only; omega))) (by decide) ?_
                refine j_aload_n rfl rfl ?_
                refine j_callV (ci := 12) rfl okX12_number c_X12_246 (ct_X12_number hS hI0 h ha0 ha1 hl) rfl rfl (((FP.rf m).st hS).lt (by decide)) (((FP.rf m).st hS).k (by decide) (by decide)) (by decide) rfl (Nat.le_of_ble_eq_true rfl) (RB.call hRB (by omega) (by decide)) ⟨Nat.le_refl _, Nat.le_refl _⟩ ?_
                rintro vq N2 ⟨e1, hR⟩
                rw [e1]
                clear e1
                simp only [Option.toList_some, Option.toList_none, List.nil_append]
                refine j_vret rfl rfl ?_ rfl (Nat.le_refl _)
                exact ⟨rfl, by rw [pO_d (s := (a, w)) (by dsimp only; omega)]; exact hR⟩


/-- in the midst of line l: so far read up to a, with the words w; what its rows hold -/
def LS (l : Int) (m N : AM) (a : Int) (w : List (Nat × Int)) (c b t x g : Int) : Prop := FL l m N ∧ IM N ∧ PS N a 0 w ∧ Rows N l c b t x g ∧ mi N 91 6 = l
theorem LS.fp {l : Int} {m N M : AM} {a : Int} {w : List (Nat × Int)} {c b t x g : Int} (h : LS l m N a w c b t x g) (f : FP N M) (hI : IM M) {a2 : Int} {w2 : List (Nat × Int)} (hP : PS M a2 0 w2) : LS l m M a2 w2 c b t x g :=
  ⟨h.1.fp f, hI, hP, h.2.2.2.1.fp f, (f.cell (by decide) (by decide)).trans h.2.2.2.2⟩
theorem LS.adv {l : Int} {m N : AM} {a : Int} {w : List (Nat × Int)} {c b t x g : Int} (h : LS l m N a w c b t x g) {d : Int} (h1 : -2147483648 ≤ d) (h2 : d < 2147483648) : LS l m (si N 86 17 d) d w c b t x g :=
  h.fp ((FP.rf N).one (o := 86) (k := 17) (Or.inr (by omega)) d) (h.2.1.read (by omega) d) (h.2.2.1.adv h1 h2)
theorem LS.s92 {l : Int} {m N : AM} {a : Int} {w : List (Nat × Int)} {c b t x g : Int} (h : LS l m N a w c b t x g) {v : Int} (hv : 0 ≤ v ∧ v ≤ 1) : LS l m (si N 92 (72 + l).toNat v) a w v b t x g :=
  ⟨h.1.row (Or.inl ⟨by omega, rfl⟩) v, h.2.1.line _ 0 1 (by simp) hv, h.2.2.1.row (by omega) _ _, h.2.2.2.1.s92 (by omega) (by omega), (mi_si_ne _ _ (by omega)).trans h.2.2.2.2⟩
theorem LS.s95 {l : Int} {m N : AM} {a : Int} {w : List (Nat × Int)} {c b t x g : Int} (h : LS l m N a w c b t x g) {v : Int} (hv : 0 ≤ v ∧ v ≤ 160) : LS l m (si N 95 (72 + l).toNat v) a w c v t x g :=
  ⟨h.1.row (Or.inl ⟨by omega, rfl⟩) v, h.2.1.line _ 0 160 (by simp) hv, h.2.2.1.row (by omega) _ _, h.2.2.2.1.s95 (by omega) (by omega), (mi_si_ne _ _ (by omega)).trans h.2.2.2.2⟩
theorem LS.s96 {l : Int} {m N : AM} {a : Int} {w : List (Nat × Int)} {c b t x g : Int} (h : LS l m N a w c b t x g) {v : Int} (hv : 0 ≤ v ∧ v ≤ 160) : LS l m (si N 96 (72 + l).toNat v) a w c b v x g :=
  ⟨h.1.row (Or.inl ⟨by omega, rfl⟩) v, h.2.1.line _ 0 160 (by simp) hv, h.2.2.1.row (by omega) _ _, h.2.2.2.1.s96 (by omega) (by omega), (mi_si_ne _ _ (by omega)).trans h.2.2.2.2⟩
theorem LS.s93 {l : Int} {m N : AM} {a : Int} {w : List (Nat × Int)} {c b t x g : Int} (h : LS l m N a w c b t x g) {v : Int} (hv : 0 ≤ v ∧ v ≤ 1) : LS l m (si N 93 (72 + l).toNat v) a w c b t v g :=
  ⟨h.1.row (Or.inl ⟨by omega, rfl⟩) v, h.2.1.line _ 0 1 (by simp) hv, h.2.2.1.row (by omega) _ _, h.2.2.2.1.s93 (by omega) (by omega), (mi_si_ne _ _ (by omega)).trans h.2.2.2.2⟩
theorem LS.s94 {l : Int} {m N : AM} {a : Int} {w : List (Nat × Int)} {c b t x g : Int} (h : LS l m N a w c b t x g) {v : Int} (hv : 0 ≤ v ∧ v ≤ 13) : LS l m (si N 94 (72 + l).toNat v) a w c b t x v :=
  ⟨h.1.row (Or.inl ⟨by omega, rfl⟩) v, h.2.1.line _ 0 13 (by simp) hv, h.2.2.1.row (by omega) _ _, h.2.2.2.1.s94 (by omega) (by omega), (mi_si_ne _ _ (by omega)).trans h.2.2.2.2⟩
/-- a wrong byte ends a line -/
theorem LS.bad {l : Int} {m N : AM} {a : Int} {w : List (Nat × Int)} {c b t x g : Int} (h : LS l m N a w c b t x g) (h0 : 0 ≤ a) (h1 : a < 2147483648) : FL l m (si N 86 18 a) ∧ IM (si N 86 18 a) ∧ mi (si N 86 18 a) 86 18 = a ∧ 0 ≤ a :=
  ⟨h.1.fp ((FP.rf N).one (o := 86) (k := 18) (Or.inr (by omega)) a), h.2.1.read (by omega) a, mi_si_same _ _ _ (by omega) (by omega), h0⟩
/-- the end of a line whose last part was read, or wasn't -/
theorem PQ.fin {l : Int} {m N : AM} {a : Int} {w : List (Nat × Int)} {c b t x g : Int} (h : LS l m N a w c b t x g) (hl0 : 0 ≤ l) (hl1 : l ≤ 11) {v : Int} (hv : 0 ≤ v ∧ v ≤ 170) : PQ l m (si (si N 97 (72 + l).toNat v) 91 6 (l + 1)) (.ok ((a, w), c, b, t, x, g, v)) :=
  ⟨(h.1.row (Or.inl ⟨by omega, rfl⟩) v).row (Or.inr ⟨rfl, rfl⟩) _, (h.2.1.line _ 0 170 (by simp) hv).line _ 0 12 (by simp) (by omega), (h.2.2.1.row (by omega) _ _).row (by omega) _ _, mi_si_same _ _ _ (by omega) (by omega), (h.2.2.2.1.other (Or.inl rfl) _ _).other (Or.inr rfl) _ _, (mi_si_ne _ _ (by omega)).trans (mi_si_same _ _ _ (by omega) (by omega))⟩
theorem PQ.err {l : Int} {m N : AM} (f : FL l m N) (hI : IM N) (hl0 : 0 ≤ l) (hl1 : l ≤ 11) {p : Int} (hp : mi N 86 18 = p) (hp0 : 0 ≤ p) {v : Int} (hv : 0 ≤ v ∧ v ≤ 170) : PQ l m (si (si N 97 (72 + l).toNat v) 91 6 (l + 1)) (.error p) :=
  ⟨(f.row (Or.inl ⟨by omega, rfl⟩) v).row (Or.inr ⟨rfl, rfl⟩) _, (hI.line _ 0 170 (by simp) hv).line _ 0 12 (by simp) (by omega), (mi_si_ne _ _ (by omega)).trans ((mi_si_ne _ _ (by omega)).trans hp), hp0⟩

set_option maxRecDepth 20000 in
set_option maxHeartbeats 8000000 in
theorem lp_readLine_91 {G : QW} {m N : AM} {l b cc bb t0 x0 g0 : Int} {v : List (Nat × Int)} {R : Except Int (PSt × LRec)} (hS : St m) (hI0 : IM m) (hl0 : 0 ≤ l) (hl1 : l ≤ 11) (hL : LS l m N b v cc bb t0 x0 g0) (hb0 : 0 ≤ b) (hb1 : b ≤ mi m 86 16) (hlv : (v.length : Int) ≤ b) (hQ : pRest (chR m) true cc bb (b, v) = R) : qJ G mX12_readLine { frames := 44, cells := 0, slots := 0, locals := 60 * 44 } (qF G (fun r m' => r = none ∧ PQ l m m' R) 0 0) 91 [(0, vR 86), (1, vI (72 + l))] [] N 0 0 := by
  have htp := hI0.s 86 16 0 160 (by decide)
  have hRB := RBn 44
  have hg := pAll_good (chR_end m) true
  refine j_aload_n rfl rfl ?_
  refine j_getR (q := 96) rfl f_X12_38 rfl ((hL.1.st hS).lt (by decide)) ((hL.1.st hS).k (by decide) (by decide)) ((hL.1.st hS).r (by decide)) ?_
  refine j_iload_n rfl rfl ?_
  refine j_aload_n rfl rfl ?_
  refine j_getI rfl f_X12_216 rfl ((hL.1.st hS).lt (by decide)) ((hL.1.st hS).k (by decide) (by decide)) ?_
  have u97_1 := mi_rng N 86 20
  refine j_iast (n := 84) rfl ((hL.1.st hS).lt (by decide)) ((hL.1.st hS).k (by decide) (by decide)) ((hL.1.st hS).n (by decide) (by decide)) (by omega) (by omega) (by first | decide | omega) ?_
  rw [hL.2.2.1.2.2.2.1]
  have hL2 := hL.s96 (v := (v.length : Int)) (by omega)
  generalize si N 96 (72 + l).toNat (v.length : Int) = N1 at hL2 ⊢
  refine j_aload_n rfl rfl ?_
  refine j_getR (q := 93) rfl f_X12_29 rfl ((hL2.1.st hS).lt (by decide)) ((hL2.1.st hS).k (by decide) (by decide)) ((hL2.1.st hS).r (by decide)) ?_
  refine j_iload_n rfl rfl ?_
  refine j_aload_n rfl rfl ?_
  refine j_bipush rfl (by decide) ?_
  refine j_callV (ci := 12) rfl okX12_isNext c_X12_261 (ct_X12_isNextU (hL2.1.st hS) hL2.2.1 hL2.2.2.1 (by omega) (by rw [show mi N1 86 16 = mi m 86 16 from hL2.1.cell (by decide) (by decide) (by omega) (by decide)]; omega) (by omega) (by decide)) rfl rfl ((hL2.1.st hS).lt (by decide)) ((hL2.1.st hS).k (by decide) (by decide)) (by decide) rfl (Nat.le_of_ble_eq_true rfl) (RB.call hRB (by omega) (by decide)) ⟨Nat.le_refl _, Nat.le_refl _⟩ ?_
  rintro vq N3 ⟨e1, qf, qi, qp⟩
  rw [hL2.1.ch] at e1 qp
  rw [e1]
  clear e1
  simp only [Option.toList_some, Option.toList_none, List.cons_append, List.nil_append]
  have hL4 := hL2.fp qf qi qp
  clear qf qi qp
  have kx5 := kxt_c (chR m) b 33
  have kl6 := fun (z : chR m b = 33) => lt_end (chR_end m) (a := b) (by omega)
  have kb7 : (b + kxt (chR m) b 33) ≤ mi m 86 16 := by omega
  refine j_zast (n := 84) rfl ((hL4.1.st hS).lt (by decide)) ((hL4.1.st hS).k (by decide) (by decide)) ((hL4.1.st hS).n (by decide) (by decide)) (by omega) (by omega) (by first | decide | omega) (by omega) ?_
  have hL9 := hL4.s93 (v := (kxt (chR m) b 33)) (by omega)
  generalize si N3 93 (72 + l).toNat (kxt (chR m) b 33) = N8 at hL9 ⊢
  refine j_aload_n rfl rfl ?_
  refine j_callV (ci := 12) rfl okX12_look c_X12_225 (ct_X12_look (hL9.1.st hS) hL9.2.1 (by rw [hL9.2.2.1.1]; omega) (by rw [hL9.2.2.1.1]; omega)) rfl rfl ((hL9.1.st hS).lt (by decide)) ((hL9.1.st hS).k (by decide) (by decide)) (by decide) rfl (Nat.le_of_ble_eq_true rfl) (RB.call hRB (by omega) (by decide)) ⟨Nat.le_refl _, Nat.le_refl _⟩ ?_
  rintro vq mq ⟨e1, e2⟩
  rw [hL9.1.ch, hL9.2.2.1.1] at e1
  rw [e1, e2]
  clear e1 e2
  simp only [Option.toList_some, Option.toList_none, List.cons_append, List.nil_append]
  have cr10 := chR_rng hI0 (b + kxt (chR m) b 33)
  refine j_istore_n rfl (by decide) ?_
  refine j_iload_n rfl rfl ?_
  refine j_bipush rfl (by decide) ?_
  refine j_icmp_eq (tgt := 135) rfl (by decide) (by omega) (by omega) (by omega) (by omega) (fun hb121_1 => ?_) (fun hb121_1 => ?_)
  · skip
    refine j_aload_n rfl rfl ?_
    refine j_dup rfl (Nat.ne_of_beq_eq_false rfl) ?_
    refine j_getI rfl f_X12_210 rfl ((hL9.1.st hS).lt (by decide)) ((hL9.1.st hS).k (by decide) (by decide)) ?_
    have u137_1 := mi_rng N8 86 17
    refine j_iconst rfl ?_
    refine j_iadd rfl ?_
    refine j_putI rfl f_X12_210 rfl ((hL9.1.st hS).lt (by decide)) ((hL9.1.st hS).k (by decide) (by decide)) ?_
    rw [hL9.2.2.1.1]
    have hL12 := hL9.adv (d := ((b + kxt (chR m) b 33) + 1)) (by omega) (by omega)
    generalize si N8 86 17 ((b + kxt (chR m) b 33) + 1) = N11 at hL12 ⊢
    refine j_aload_n rfl rfl ?_
    refine j_callV (ci := 12) rfl okX12_look c_X12_225 (ct_X12_look (hL12.1.st hS) hL12.2.1 (by rw [hL12.2.2.1.1]; omega) (by rw [hL12.2.2.1.1]; omega)) rfl rfl ((hL12.1.st hS).lt (by decide)) ((hL12.1.st hS).k (by decide) (by decide)) (by decide) rfl (Nat.le_of_ble_eq_true rfl) (RB.call hRB (by omega) (by decide)) ⟨Nat.le_refl _, Nat.le_refl _⟩ ?_
    rintro vq mq ⟨e1, e2⟩
    rw [hL12.1.ch, hL12.2.2.1.1] at e1
    rw [e1, e2]
    clear e1 e2
    simp only [Option.toList_some, Option.toList_none, List.cons_append, List.nil_append]
    have cr13 := chR_rng hI0 ((b + kxt (chR m) b 33) + 1)
    refine j_bipush rfl (by decide) ?_
    refine j_iload_n rfl rfl ?_
    refine j_bipush rfl (by decide) ?_
    refine j_icmp_ne (tgt := 162) rfl (by decide) (by omega) (by omega) (by omega) (by omega) (fun hb154_1 => ?_) (fun hb154_1 => ?_)
    · skip
      refine j_bipush rfl (by decide) ?_
      refine j_callS (As := [_, _, _]) rfl okX12_in c_X12_194 (ct_X12_in (by omega) (by omega) (by omega) (by omega) (by omega) (by omega)) rfl rfl (Nat.le_of_ble_eq_true rfl) (RB.call hRB (by omega) (by decide)) ⟨Nat.le_refl _, Nat.le_refl _⟩ ?_
      rintro vq mq ⟨e1, e2⟩
      rw [e1, e2]
      clear e1 e2
      simp only [Option.toList_some, Option.toList_none, List.cons_append, List.nil_append]
      refine j_bif_ne (tgt := 175) rfl (by decide) (fun hb167_1 => ?_) (fun hb167_1 => ?_)
      · skip
        refine j_aload_n rfl rfl ?_
        refine j_getR (q := 94) rfl f_X12_32 rfl ((hL12.1.st hS).lt (by decide)) ((hL12.1.st hS).k (by decide) (by decide)) ((hL12.1.st hS).r (by decide)) ?_
        refine j_iload_n rfl rfl ?_
        refine j_aload_n rfl rfl ?_
        refine j_callV (ci := 12) rfl okX12_look c_X12_225 (ct_X12_look (hL12.1.st hS) hL12.2.1 (by rw [hL12.2.2.1.1]; omega) (by rw [hL12.2.2.1.1]; omega)) rfl rfl ((hL12.1.st hS).lt (by decide)) ((hL12.1.st hS).k (by decide) (by decide)) (by decide) rfl (Nat.le_of_ble_eq_true rfl) (RB.call hRB (by omega) (by decide)) ⟨Nat.le_refl _, Nat.le_refl _⟩ ?_
        rintro vq mq ⟨e1, e2⟩
        rw [hL12.1.ch, hL12.2.2.1.1] at e1
        rw [e1, e2]
        clear e1 e2
        simp only [Option.toList_some, Option.toList_none, List.cons_append, List.nil_append]
        have cr14 := chR_rng hI0 ((b + kxt (chR m) b 33) + 1)
        refine j_bipush rfl (by decide) ?_
        refine j_isub rfl ?_
        refine j_iload_n rfl rfl ?_
        refine j_bipush rfl (by decide) ?_
        refine j_icmp_ne (tgt := 198) rfl (by decide) (by omega) (by omega) (by omega) (by omega) (fun hb190_1 => ?_) (fun hb190_1 => ?_)
        · skip
          refine j_iconst rfl ?_
          refine j_iadd rfl ?_
          refine j_iast (n := 84) rfl ((hL12.1.st hS).lt (by decide)) ((hL12.1.st hS).k (by decide) (by decide)) ((hL12.1.st hS).n (by decide) (by decide)) (by omega) (by omega) (by first | decide | omega) ?_
          have hT : pTgt (chR m) (b + kxt (chR m) b 33) = .ok (((chR m ((b + kxt (chR m) b 33) + 1)) - 48) + 0) := by unfold pTgt; first | (rw [if_pos (by omega), if_pos (by omega)]; congr 1; omega) | (rw [if_neg (by omega), if_pos (by omega), if_pos (by omega)])
          unfold pRest at hQ
          rw [hT] at hQ
          dsimp only at hQ
          have hL16 := hL12.s94 (v := (((chR m ((b + kxt (chR m) b 33) + 1)) - 48) + 0)) (by omega)
          generalize si N11 94 (72 + l).toNat (((chR m ((b + kxt (chR m) b 33) + 1)) - 48) + 0) = N15 at hL16 ⊢
          refine j_aload_n rfl rfl ?_
          refine j_dup rfl (Nat.ne_of_beq_eq_false rfl) ?_
          refine j_getI rfl f_X12_210 rfl ((hL16.1.st hS).lt (by decide)) ((hL16.1.st hS).k (by decide) (by decide)) ?_
          have u203_1 := mi_rng N15 86 17
          refine j_iconst rfl ?_
          refine j_iadd rfl ?_
          refine j_putI rfl f_X12_210 rfl ((hL16.1.st hS).lt (by decide)) ((hL16.1.st hS).k (by decide) (by decide)) ?_
          rw [hL16.2.2.1.1]
          have hL18 := hL16.adv (d := (((b + kxt (chR m) b 33) + 1) + 1)) (by omega) (by omega)
          generalize si N15 86 17 (((b + kxt (chR m) b 33) + 1) + 1) = N17 at hL18 ⊢
          refine j_aload_n rfl rfl ?_
          refine j_bipush rfl (by decide) ?_
          refine j_callV (ci := 12) rfl okX12_isNext c_X12_261 (ct_X12_isNextU (hL18.1.st hS) hL18.2.1 hL18.2.2.1 (by omega) (by rw [show mi N17 86 16 = mi m 86 16 from hL18.1.cell (by decide) (by decide) (by omega) (by decide)]; omega) (by omega) (by decide)) rfl rfl ((hL18.1.st hS).lt (by decide)) ((hL18.1.st hS).k (by decide) (by decide)) (by decide) rfl (Nat.le_of_ble_eq_true rfl) (RB.call hRB (by omega) (by decide)) ⟨Nat.le_refl _, Nat.le_refl _⟩ ?_
          rintro vq N19 ⟨e1, qf, qi, qp⟩
          rw [hL18.1.ch] at e1 qp
          rw [e1]
          clear e1
          simp only [Option.toList_some, Option.toList_none, List.cons_append, List.nil_append]
          have hL20 := hL18.fp qf qi qp
          clear qf qi qp
          have kx21 := kxt_c (chR m) (((b + kxt (chR m) b 33) + 1) + 1) 61
          have kl22 := fun (z : chR m (((b + kxt (chR m) b 33) + 1) + 1) = 61) => lt_end (chR_end m) (a := (((b + kxt (chR m) b 33) + 1) + 1)) (by omega)
          have kb23 : ((((b + kxt (chR m) b 33) + 1) + 1) + kxt (chR m) (((b + kxt (chR m) b 33) + 1) + 1) 61) ≤ mi m 86 16 := by omega
          refine j_if_ne (tgt := 225) rfl (by decide) (by omega) (by omega) (fun hb217_1 => ?_) (fun hb217_1 => ?_)
          · skip
            rw [if_pos (by omega)] at hQ
            have hkp : ((((b + kxt (chR m) b 33) + 1) + 1) + kxt (chR m) (((b + kxt (chR m) b 33) + 1) + 1) 61) = (((b + kxt (chR m) b 33) + 1) + 1) + 1 := by omega
            rw [← hkp] at hQ
            refine j_aload_n rfl rfl ?_
            refine j_callV (ci := 12) rfl okX12_either c_X12_243 (ct_X12_eitherA G N19 ((((b + kxt (chR m) b 33) + 1) + 1) + kxt (chR m) (((b + kxt (chR m) b 33) + 1) + 1) 61) v (hL20.1.st hS) hL20.2.1 hL20.2.2.1 (by omega) (by rw [show mi N19 86 16 = mi m 86 16 from hL20.1.cell (by decide) (by decide) (by omega) (by decide)]; omega) (by omega)) rfl rfl ((hL20.1.st hS).lt (by decide)) ((hL20.1.st hS).k (by decide) (by decide)) (by decide) rfl (Nat.le_of_ble_eq_true rfl) (RB.call hRB (by omega) (by decide)) ⟨Nat.le_refl _, Nat.le_refl _⟩ ?_
            rintro vq N24 ⟨e1, hR⟩
            rw [e1]
            clear e1
            rw [hL20.1.ch] at hR
            simp only [Option.toList_some, Option.toList_none, List.nil_append]
            cases hres : pAll (chR m) true (((((b + kxt (chR m) b 33) + 1) + 1) + kxt (chR m) (((b + kxt (chR m) b 33) + 1) + 1) 61), v) with
            | error p =>
              rw [hres] at hR hQ
              obtain ⟨hFb, hIb, hX⟩ := hR
              have hX : PX N24 ((((b + kxt (chR m) b 33) + 1) + 1) + kxt (chR m) (((b + kxt (chR m) b 33) + 1) + 1) 61) v.length p := hX
              obtain ⟨x1, x2, x3, x4, x5, x6⟩ := hX
              have hFc := hL20.1.fp hFb
              have e16 : mi N24 86 16 = mi m 86 16 := hFc.cell (by decide) (by decide) (by omega) (by decide)
              have e91 : mi N24 91 6 = l := (hFb.cell (by decide) (by decide)).trans hL20.2.2.2.2
              refine j_aload_n rfl rfl ?_
              refine j_getR (q := 97) rfl f_X12_41 rfl ((hFc.st hS).lt (by decide)) ((hFc.st hS).k (by decide) (by decide)) ((hFc.st hS).r (by decide)) ?_
              refine j_iload_n rfl rfl ?_
              refine j_aload_n rfl rfl ?_
              refine j_getI rfl f_X12_216 rfl ((hFc.st hS).lt (by decide)) ((hFc.st hS).k (by decide) (by decide)) ?_
              have u235_1 := mi_rng N24 86 20
              refine j_iast (n := 84) rfl ((hFc.st hS).lt (by decide)) ((hFc.st hS).k (by decide) (by decide)) ((hFc.st hS).n (by decide) (by decide)) (by omega) (by omega) (by first | decide | omega) ?_
              have e91b : mi (si N24 97 (72 + l).toNat (mi N24 86 20)) 91 (6 : Int).toNat = l := (mi_si_ne _ _ (fun q => absurd q.1 (by decide))).trans e91
              refine j_aload_n rfl rfl ?_
              refine j_getR (q := 91) rfl f_X12_22 rfl ((hFc.st hS).lt (by decide)) ((hFc.st hS).k (by decide) (by decide)) ((hFc.st hS).r (by decide)) ?_
              refine j_bipush rfl (by decide) ?_
              refine j_dup2 rfl (Nat.ne_of_beq_eq_false rfl) (Nat.ne_of_beq_eq_false rfl) ?_
              refine j_iald (n := 7) rfl ((hFc.st hS).lt (by decide)) ((hFc.st hS).k (by decide) (by decide)) ((hFc.st hS).n (by decide) (by decide)) (by omega) (by omega) (by decide) ?_
              rw [show mi (si N24 97 (72 + l).toNat (mi N24 86 20)) 91 (6 : Int).toNat = mi N24 91 (6 : Int).toNat from by simp [mi_si, mi_fil, mi_cpr, mi_sl, mi_sr, ml_sl, ml_si, ml_sr, ml_fil, ml_cpr]]
              have u246_1 := hIb.a 91 (0) 12 (by decide) (6 : Int).toNat
              refine j_iconst rfl ?_
              refine j_iadd rfl ?_
              refine j_iast (n := 7) rfl ((hFc.st hS).lt (by decide)) ((hFc.st hS).k (by decide) (by decide)) ((hFc.st hS).n (by decide) (by decide)) (by omega) (by omega) (by first | decide | omega) ?_
              refine j_vret rfl rfl ?_ rfl (Nat.le_refl _)
              have hQ : (Except.error p : Except Int (PSt × LRec)) = R := hQ
              subst hQ
              refine ⟨rfl, ?_⟩
              rw [show mi (si N24 97 (72 + l).toNat (mi N24 86 20)) 91 (6 : Int).toNat = l from (mi_si_ne _ _ (fun q => absurd q.1 (by decide))).trans e91]
              exact PQ.err hFc hIb hl0 hl1 x1 x2 (by omega)
            | ok z =>
              rw [hres] at hR hQ
              obtain ⟨hFb, hIb, hPb⟩ := hR
              have hPb : PS N24 z.1 0 z.2 := hPb
              have hLz := hL20.fp hFb hIb hPb
              obtain ⟨g1, g2, w2, g3, g4, g5, -⟩ := (hg ((((b + kxt (chR m) b 33) + 1) + 1) + kxt (chR m) (((b + kxt (chR m) b 33) + 1) + 1) 61) v (by omega) (by omega)).1 z hres
              have g7 : (z.2.length : Int) ≤ v.length + (z.1 - ((((b + kxt (chR m) b 33) + 1) + 1) + kxt (chR m) (((b + kxt (chR m) b 33) + 1) + 1) 61)) := by rw [g3, List.length_append]; omega
              have e91 := hLz.2.2.2.2
              refine j_aload_n rfl rfl ?_
              refine j_getR (q := 97) rfl f_X12_41 rfl ((hLz.1.st hS).lt (by decide)) ((hLz.1.st hS).k (by decide) (by decide)) ((hLz.1.st hS).r (by decide)) ?_
              refine j_iload_n rfl rfl ?_
              refine j_aload_n rfl rfl ?_
              refine j_getI rfl f_X12_216 rfl ((hLz.1.st hS).lt (by decide)) ((hLz.1.st hS).k (by decide) (by decide)) ?_
              have u235_2 := mi_rng N24 86 20
              refine j_iast (n := 84) rfl ((hLz.1.st hS).lt (by decide)) ((hLz.1.st hS).k (by decide) (by decide)) ((hLz.1.st hS).n (by decide) (by decide)) (by omega) (by omega) (by first | decide | omega) ?_
              rw [hLz.2.2.1.2.2.2.1]
              have e91b : mi (si N24 97 (72 + l).toNat (z.2.length : Int)) 91 (6 : Int).toNat = l := (mi_si_ne _ _ (fun q => absurd q.1 (by decide))).trans e91
              refine j_aload_n rfl rfl ?_
              refine j_getR (q := 91) rfl f_X12_22 rfl ((hLz.1.st hS).lt (by decide)) ((hLz.1.st hS).k (by decide) (by decide)) ((hLz.1.st hS).r (by decide)) ?_
              refine j_bipush rfl (by decide) ?_
              refine j_dup2 rfl (Nat.ne_of_beq_eq_false rfl) (Nat.ne_of_beq_eq_false rfl) ?_
              refine j_iald (n := 7) rfl ((hLz.1.st hS).lt (by decide)) ((hLz.1.st hS).k (by decide) (by decide)) ((hLz.1.st hS).n (by decide) (by decide)) (by omega) (by omega) (by decide) ?_
              rw [show mi (si N24 97 (72 + l).toNat (z.2.length : Int)) 91 (6 : Int).toNat = mi N24 91 (6 : Int).toNat from by simp [mi_si, mi_fil, mi_cpr, mi_sl, mi_sr, ml_sl, ml_si, ml_sr, ml_fil, ml_cpr]]
              have u246_2 := hLz.2.1.a 91 (0) 12 (by decide) (6 : Int).toNat
              refine j_iconst rfl ?_
              refine j_iadd rfl ?_
              refine j_iast (n := 7) rfl ((hLz.1.st hS).lt (by decide)) ((hLz.1.st hS).k (by decide) (by decide)) ((hLz.1.st hS).n (by decide) (by decide)) (by omega) (by omega) (by first | decide | omega) ?_
              refine j_vret rfl rfl ?_ rfl (Nat.le_refl _)
              have hQ : (Except.ok (z, _) : Except Int (PSt × LRec)) = R := hQ
              subst hQ
              refine ⟨rfl, ?_⟩
              rw [e91b]
              exact PQ.fin hLz hl0 hl1 (by omega)
          · skip
            refine j_aload_n rfl rfl ?_
            refine j_callV (ci := 12) rfl okX12_wrong c_X12_222 (ct_X12_wrong (hL20.1.st hS) hL20.2.1) rfl rfl ((hL20.1.st hS).lt (by decide)) ((hL20.1.st hS).k (by decide) (by decide)) (by decide) rfl (Nat.le_of_ble_eq_true rfl) (RB.call hRB (by omega) (by decide)) ⟨Nat.le_refl _, Nat.le_refl _⟩ ?_
            rintro vq mq ⟨e1, e2⟩
            rw [if_neg (by rw [hL20.2.2.1.2.1]; decide), hL20.2.2.1.1] at e2
            rw [e1, e2]
            clear e1 e2
            simp only [Option.toList_some, Option.toList_none, List.cons_append, List.nil_append]
            have hB := hL20.bad (by omega) (by omega)
            refine j_vret rfl rfl ?_ rfl (Nat.le_refl _)
            exact ⟨rfl, by rw [if_neg (by omega)] at hQ; rw [← hQ]; exact ⟨hB.1, hB.2.1, hB.2.2⟩⟩
        · skip
          refine j_bipush rfl (by decide) ?_
          refine j_goto (tgt := 199) rfl (by decide) ?_
          refine j_iadd rfl ?_
          refine j_iast (n := 84) rfl ((hL12.1.st hS).lt (by decide)) ((hL12.1.st hS).k (by decide) (by decide)) ((hL12.1.st hS).n (by decide) (by decide)) (by omega) (by omega) (by first | decide | omega) ?_
          have hT : pTgt (chR m) (b + kxt (chR m) b 33) = .ok (((chR m ((b + kxt (chR m) b 33) + 1)) - 48) + 10) := by unfold pTgt; first | (rw [if_pos (by omega), if_pos (by omega)]; congr 1; omega) | (rw [if_neg (by omega), if_pos (by omega), if_pos (by omega)])
          unfold pRest at hQ
          rw [hT] at hQ
          dsimp only at hQ
          have hL26 := hL12.s94 (v := (((chR m ((b + kxt (chR m) b 33) + 1)) - 48) + 10)) (by omega)
          generalize si N11 94 (72 + l).toNat (((chR m ((b + kxt (chR m) b 33) + 1)) - 48) + 10) = N25 at hL26 ⊢
          refine j_aload_n rfl rfl ?_
          refine j_dup rfl (Nat.ne_of_beq_eq_false rfl) ?_
          refine j_getI rfl f_X12_210 rfl ((hL26.1.st hS).lt (by decide)) ((hL26.1.st hS).k (by decide) (by decide)) ?_
          have u203_2 := mi_rng N25 86 17
          refine j_iconst rfl ?_
          refine j_iadd rfl ?_
          refine j_putI rfl f_X12_210 rfl ((hL26.1.st hS).lt (by decide)) ((hL26.1.st hS).k (by decide) (by decide)) ?_
          rw [hL26.2.2.1.1]
          have hL28 := hL26.adv (d := (((b + kxt (chR m) b 33) + 1) + 1)) (by omega) (by omega)
          generalize si N25 86 17 (((b + kxt (chR m) b 33) + 1) + 1) = N27 at hL28 ⊢
          refine j_aload_n rfl rfl ?_
          refine j_bipush rfl (by decide) ?_
          refine j_callV (ci := 12) rfl okX12_isNext c_X12_261 (ct_X12_isNextU (hL28.1.st hS) hL28.2.1 hL28.2.2.1 (by omega) (by rw [show mi N27 86 16 = mi m 86 16 from hL28.1.cell (by decide) (by decide) (by omega) (by decide)]; omega) (by omega) (by decide)) rfl rfl ((hL28.1.st hS).lt (by decide)) ((hL28.1.st hS).k (by decide) (by decide)) (by decide) rfl (Nat.le_of_ble_eq_true rfl) (RB.call hRB (by omega) (by decide)) ⟨Nat.le_refl _, Nat.le_refl _⟩ ?_
          rintro vq N29 ⟨e1, qf, qi, qp⟩
          rw [hL28.1.ch] at e1 qp
          rw [e1]
          clear e1
          simp only [Option.toList_some, Option.toList_none, List.cons_append, List.nil_append]
          have hL30 := hL28.fp qf qi qp
          clear qf qi qp
          have kx31 := kxt_c (chR m) (((b + kxt (chR m) b 33) + 1) + 1) 61
          have kl32 := fun (z : chR m (((b + kxt (chR m) b 33) + 1) + 1) = 61) => lt_end (chR_end m) (a := (((b + kxt (chR m) b 33) + 1) + 1)) (by omega)
          have kb33 : ((((b + kxt (chR m) b 33) + 1) + 1) + kxt (chR m) (((b + kxt (chR m) b 33) + 1) + 1) 61) ≤ mi m 86 16 := by omega
          refine j_if_ne (tgt := 225) rfl (by decide) (by omega) (by omega) (fun hb217_2 => ?_) (fun hb217_2 => ?_)
          · skip
            rw [if_pos (by omega)] at hQ
            have hkp : ((((b + kxt (chR m) b 33) + 1) + 1) + kxt (chR m) (((b + kxt (chR m) b 33) + 1) + 1) 61) = (((b + kxt (chR m) b 33) + 1) + 1) + 1 := by omega
            rw [← hkp] at hQ
            refine j_aload_n rfl rfl ?_
            refine j_callV (ci := 12) rfl okX12_either c_X12_243 (ct_X12_eitherA G N29 ((((b + kxt (chR m) b 33) + 1) + 1) + kxt (chR m) (((b + kxt (chR m) b 33) + 1) + 1) 61) v (hL30.1.st hS) hL30.2.1 hL30.2.2.1 (by omega) (by rw [show mi N29 86 16 = mi m 86 16 from hL30.1.cell (by decide) (by decide) (by omega) (by decide)]; omega) (by omega)) rfl rfl ((hL30.1.st hS).lt (by decide)) ((hL30.1.st hS).k (by decide) (by decide)) (by decide) rfl (Nat.le_of_ble_eq_true rfl) (RB.call hRB (by omega) (by decide)) ⟨Nat.le_refl _, Nat.le_refl _⟩ ?_
            rintro vq N34 ⟨e1, hR⟩
            rw [e1]
            clear e1
            rw [hL30.1.ch] at hR
            simp only [Option.toList_some, Option.toList_none, List.nil_append]
            cases hres : pAll (chR m) true (((((b + kxt (chR m) b 33) + 1) + 1) + kxt (chR m) (((b + kxt (chR m) b 33) + 1) + 1) 61), v) with
            | error p =>
              rw [hres] at hR hQ
              obtain ⟨hFb, hIb, hX⟩ := hR
              have hX : PX N34 ((((b + kxt (chR m) b 33) + 1) + 1) + kxt (chR m) (((b + kxt (chR m) b 33) + 1) + 1) 61) v.length p := hX
              obtain ⟨x1, x2, x3, x4, x5, x6⟩ := hX
              have hFc := hL30.1.fp hFb
              have e16 : mi N34 86 16 = mi m 86 16 := hFc.cell (by decide) (by decide) (by omega) (by decide)
              have e91 : mi N34 91 6 = l := (hFb.cell (by decide) (by decide)).trans hL30.2.2.2.2
              refine j_aload_n rfl rfl ?_
              refine j_getR (q := 97) rfl f_X12_41 rfl ((hFc.st hS).lt (by decide)) ((hFc.st hS).k (by decide) (by decide)) ((hFc.st hS).r (by decide)) ?_
              refine j_iload_n rfl rfl ?_
              refine j_aload_n rfl rfl ?_
              refine j_getI rfl f_X12_216 rfl ((hFc.st hS).lt (by decide)) ((hFc.st hS).k (by decide) (by decide)) ?_
              have u235_3 := mi_rng N34 86 20
              refine j_iast (n := 84) rfl ((hFc.st hS).lt (by decide)) ((hFc.st hS).k (by decide) (by decide)) ((hFc.st hS).n (by decide) (by decide)) (by omega) (by omega) (by first | decide | omega) ?_
              have e91b : mi (si N34 97 (72 + l).toNat (mi N34 86 20)) 91 (6 : Int).toNat = l := (mi_si_ne _ _ (fun q => absurd q.1 (by decide))).trans e91
              refine j_aload_n rfl rfl ?_
              refine j_getR (q := 91) rfl f_X12_22 rfl ((hFc.st hS).lt (by decide)) ((hFc.st hS).k (by decide) (by decide)) ((hFc.st hS).r (by decide)) ?_
              refine j_bipush rfl (by decide) ?_
              refine j_dup2 rfl (Nat.ne_of_beq_eq_false rfl) (Nat.ne_of_beq_eq_false rfl) ?_
              refine j_iald (n := 7) rfl ((hFc.st hS).lt (by decide)) ((hFc.st hS).k (by decide) (by decide)) ((hFc.st hS).n (by decide) (by decide)) (by omega) (by omega) (by decide) ?_
              rw [show mi (si N34 97 (72 + l).toNat (mi N34 86 20)) 91 (6 : Int).toNat = mi N34 91 (6 : Int).toNat from by simp [mi_si, mi_fil, mi_cpr, mi_sl, mi_sr, ml_sl, ml_si, ml_sr, ml_fil, ml_cpr]]
              have u246_3 := hIb.a 91 (0) 12 (by decide) (6 : Int).toNat
              refine j_iconst rfl ?_
              refine j_iadd rfl ?_
              refine j_iast (n := 7) rfl ((hFc.st hS).lt (by decide)) ((hFc.st hS).k (by decide) (by decide)) ((hFc.st hS).n (by decide) (by decide)) (by omega) (by omega) (by first | decide | omega) ?_
              refine j_vret rfl rfl ?_ rfl (Nat.le_refl _)
              have hQ : (Except.error p : Except Int (PSt × LRec)) = R := hQ
              subst hQ
              refine ⟨rfl, ?_⟩
              rw [show mi (si N34 97 (72 + l).toNat (mi N34 86 20)) 91 (6 : Int).toNat = l from (mi_si_ne _ _ (fun q => absurd q.1 (by decide))).trans e91]
              exact PQ.err hFc hIb hl0 hl1 x1 x2 (by omega)
            | ok z =>
              rw [hres] at hR hQ
              obtain ⟨hFb, hIb, hPb⟩ := hR
              have hPb : PS N34 z.1 0 z.2 := hPb
              have hLz := hL30.fp hFb hIb hPb
              obtain ⟨g1, g2, w2, g3, g4, g5, -⟩ := (hg ((((b + kxt (chR m) b 33) + 1) + 1) + kxt (chR m) (((b + kxt (chR m) b 33) + 1) + 1) 61) v (by omega) (by omega)).1 z hres
              have g7 : (z.2.length : Int) ≤ v.length + (z.1 - ((((b + kxt (chR m) b 33) + 1) + 1) + kxt (chR m) (((b + kxt (chR m) b 33) + 1) + 1) 61)) := by rw [g3, List.length_append]; omega
              have e91 := hLz.2.2.2.2
              refine j_aload_n rfl rfl ?_
              refine j_getR (q := 97) rfl f_X12_41 rfl ((hLz.1.st hS).lt (by decide)) ((hLz.1.st hS).k (by decide) (by decide)) ((hLz.1.st hS).r (by decide)) ?_
              refine j_iload_n rfl rfl ?_
              refine j_aload_n rfl rfl ?_
              refine j_getI rfl f_X12_216 rfl ((hLz.1.st hS).lt (by decide)) ((hLz.1.st hS).k (by decide) (by decide)) ?_
              have u235_4 := mi_rng N34 86 20
              refine j_iast (n := 84) rfl ((hLz.1.st hS).lt (by decide)) ((hLz.1.st hS).k (by decide) (by decide)) ((hLz.1.st hS).n (by decide) (by decide)) (by omega) (by omega) (by first | decide | omega) ?_
              rw [hLz.2.2.1.2.2.2.1]
              have e91b : mi (si N34 97 (72 + l).toNat (z.2.length : Int)) 91 (6 : Int).toNat = l := (mi_si_ne _ _ (fun q => absurd q.1 (by decide))).trans e91
              refine j_aload_n rfl rfl ?_
              refine j_getR (q := 91) rfl f_X12_22 rfl ((hLz.1.st hS).lt (by decide)) ((hLz.1.st hS).k (by decide) (by decide)) ((hLz.1.st hS).r (by decide)) ?_
              refine j_bipush rfl (by decide) ?_
              refine j_dup2 rfl (Nat.ne_of_beq_eq_false rfl) (Nat.ne_of_beq_eq_false rfl) ?_
              refine j_iald (n := 7) rfl ((hLz.1.st hS).lt (by decide)) ((hLz.1.st hS).k (by decide) (by decide)) ((hLz.1.st hS).n (by decide) (by decide)) (by omega) (by omega) (by decide) ?_
              rw [show mi (si N34 97 (72 + l).toNat (z.2.length : Int)) 91 (6 : Int).toNat = mi N34 91 (6 : Int).toNat from by simp [mi_si, mi_fil, mi_cpr, mi_sl, mi_sr, ml_sl, ml_si, ml_sr, ml_fil, ml_cpr]]
              have u246_4 := hLz.2.1.a 91 (0) 12 (by decide) (6 : Int).toNat
              refine j_iconst rfl ?_
              refine j_iadd rfl ?_
              refine j_iast (n := 7) rfl ((hLz.1.st hS).lt (by decide)) ((hLz.1.st hS).k (by decide) (by decide)) ((hLz.1.st hS).n (by decide) (by decide)) (by omega) (by omega) (by first | decide | omega) ?_
              refine j_vret rfl rfl ?_ rfl (Nat.le_refl _)
              have hQ : (Except.ok (z, _) : Except Int (PSt × LRec)) = R := hQ
              subst hQ
              refine ⟨rfl, ?_⟩
              rw [e91b]
              exact PQ.fin hLz hl0 hl1 (by omega)
          · skip
            refine j_aload_n rfl rfl ?_
            refine j_callV (ci := 12) rfl okX12_wrong c_X12_222 (ct_X12_wrong (hL30.1.st hS) hL30.2.1) rfl rfl ((hL30.1.st hS).lt (by decide)) ((hL30.1.st hS).k (by decide) (by decide)) (by decide) rfl (Nat.le_of_ble_eq_true rfl) (RB.call hRB (by omega) (by decide)) ⟨Nat.le_refl _, Nat.le_refl _⟩ ?_
            rintro vq mq ⟨e1, e2⟩
            rw [if_neg (by rw [hL30.2.2.1.2.1]; decide), hL30.2.2.1.1] at e2
            rw [e1, e2]
            clear e1 e2
            simp only [Option.toList_some, Option.toList_none, List.cons_append, List.nil_append]
            have hB := hL30.bad (by omega) (by omega)
            refine j_vret rfl rfl ?_ rfl (Nat.le_refl _)
            exact ⟨rfl, by rw [if_neg (by omega)] at hQ; rw [← hQ]; exact ⟨hB.1, hB.2.1, hB.2.2⟩⟩
      · skip
        refine j_aload_n rfl rfl ?_
        refine j_callV (ci := 12) rfl okX12_wrong c_X12_222 (ct_X12_wrong (hL12.1.st hS) hL12.2.1) rfl rfl ((hL12.1.st hS).lt (by decide)) ((hL12.1.st hS).k (by decide) (by decide)) (by decide) rfl (Nat.le_of_ble_eq_true rfl) (RB.call hRB (by omega) (by decide)) ⟨Nat.le_refl _, Nat.le_refl _⟩ ?_
        rintro vq mq ⟨e1, e2⟩
        rw [if_neg (by rw [hL12.2.2.1.2.1]; decide), hL12.2.2.1.1] at e2
        rw [e1, e2]
        clear e1 e2
        simp only [Option.toList_some, Option.toList_none, List.cons_append, List.nil_append]
        have hB := hL12.bad (by omega) (by omega)
        refine j_vret rfl rfl ?_ rfl (Nat.le_refl _)
        exact ⟨rfl, by rw [← hQ]; unfold pRest pTgt; first | (rw [if_neg (by omega), if_neg (by omega)]; exact ⟨hB.1, hB.2.1, hB.2.2⟩) | (rw [if_pos (by omega), if_neg (by omega)]; exact ⟨hB.1, hB.2.1, hB.2.2⟩) | (rw [if_neg (by omega), if_pos (by omega), if_neg (by omega)]; exact ⟨hB.1, hB.2.1, hB.2.2⟩)⟩
    · skip
      refine j_bipush rfl (by decide) ?_
      refine j_goto (tgt := 164) rfl (by decide) ?_
      refine j_callS (As := [_, _, _]) rfl okX12_in c_X12_194 (ct_X12_in (by omega) (by omega) (by omega) (by omega) (by omega) (by omega)) rfl rfl (Nat.le_of_ble_eq_true rfl) (RB.call hRB (by omega) (by decide)) ⟨Nat.le_refl _, Nat.le_refl _⟩ ?_
      rintro vq mq ⟨e1, e2⟩
      rw [e1, e2]
      clear e1 e2
      simp only [Option.toList_some, Option.toList_none, List.cons_append, List.nil_append]
      refine j_bif_ne (tgt := 175) rfl (by decide) (fun hb167_2 => ?_) (fun hb167_2 => ?_)
      · skip
        refine j_aload_n rfl rfl ?_
        refine j_getR (q := 94) rfl f_X12_32 rfl ((hL12.1.st hS).lt (by decide)) ((hL12.1.st hS).k (by decide) (by decide)) ((hL12.1.st hS).r (by decide)) ?_
        refine j_iload_n rfl rfl ?_
        refine j_aload_n rfl rfl ?_
        refine j_callV (ci := 12) rfl okX12_look c_X12_225 (ct_X12_look (hL12.1.st hS) hL12.2.1 (by rw [hL12.2.2.1.1]; omega) (by rw [hL12.2.2.1.1]; omega)) rfl rfl ((hL12.1.st hS).lt (by decide)) ((hL12.1.st hS).k (by decide) (by decide)) (by decide) rfl (Nat.le_of_ble_eq_true rfl) (RB.call hRB (by omega) (by decide)) ⟨Nat.le_refl _, Nat.le_refl _⟩ ?_
        rintro vq mq ⟨e1, e2⟩
        rw [hL12.1.ch, hL12.2.2.1.1] at e1
        rw [e1, e2]
        clear e1 e2
        simp only [Option.toList_some, Option.toList_none, List.cons_append, List.nil_append]
        have cr35 := chR_rng hI0 ((b + kxt (chR m) b 33) + 1)
        refine j_bipush rfl (by decide) ?_
        refine j_isub rfl ?_
        refine j_iload_n rfl rfl ?_
        refine j_bipush rfl (by decide) ?_
        refine j_icmp_ne (tgt := 198) rfl (by decide) (by omega) (by omega) (by omega) (by omega) (fun hb190_2 => ?_) (fun hb190_2 => ?_)
        · skip
          refine j_iconst rfl ?_
          refine j_iadd rfl ?_
          refine j_iast (n := 84) rfl ((hL12.1.st hS).lt (by decide)) ((hL12.1.st hS).k (by decide) (by decide)) ((hL12.1.st hS).n (by decide) (by decide)) (by omega) (by omega) (by first | decide | omega) ?_
          have hT : pTgt (chR m) (b + kxt (chR m) b 33) = .ok (((chR m ((b + kxt (chR m) b 33) + 1)) - 48) + 0) := by unfold pTgt; first | (rw [if_pos (by omega), if_pos (by omega)]; congr 1; omega) | (rw [if_neg (by omega), if_pos (by omega), if_pos (by omega)])
          unfold pRest at hQ
          rw [hT] at hQ
          dsimp only at hQ
          have hL37 := hL12.s94 (v := (((chR m ((b + kxt (chR m) b 33) + 1)) - 48) + 0)) (by omega)
          generalize si N11 94 (72 + l).toNat (((chR m ((b + kxt (chR m) b 33) + 1)) - 48) + 0) = N36 at hL37 ⊢
          refine j_aload_n rfl rfl ?_
          refine j_dup rfl (Nat.ne_of_beq_eq_false rfl) ?_
          refine j_getI rfl f_X12_210 rfl ((hL37.1.st hS).lt (by decide)) ((hL37.1.st hS).k (by decide) (by decide)) ?_
          have u203_3 := mi_rng N36 86 17
          refine j_iconst rfl ?_
          refine j_iadd rfl ?_
          refine j_putI rfl f_X12_210 rfl ((hL37.1.st hS).lt (by decide)) ((hL37.1.st hS).k (by decide) (by decide)) ?_
          rw [hL37.2.2.1.1]
          have hL39 := hL37.adv (d := (((b + kxt (chR m) b 33) + 1) + 1)) (by omega) (by omega)
          generalize si N36 86 17 (((b + kxt (chR m) b 33) + 1) + 1) = N38 at hL39 ⊢
          refine j_aload_n rfl rfl ?_
          refine j_bipush rfl (by decide) ?_
          refine j_callV (ci := 12) rfl okX12_isNext c_X12_261 (ct_X12_isNextU (hL39.1.st hS) hL39.2.1 hL39.2.2.1 (by omega) (by rw [show mi N38 86 16 = mi m 86 16 from hL39.1.cell (by decide) (by decide) (by omega) (by decide)]; omega) (by omega) (by decide)) rfl rfl ((hL39.1.st hS).lt (by decide)) ((hL39.1.st hS).k (by decide) (by decide)) (by decide) rfl (Nat.le_of_ble_eq_true rfl) (RB.call hRB (by omega) (by decide)) ⟨Nat.le_refl _, Nat.le_refl _⟩ ?_
          rintro vq N40 ⟨e1, qf, qi, qp⟩
          rw [hL39.1.ch] at e1 qp
          rw [e1]
          clear e1
          simp only [Option.toList_some, Option.toList_none, List.cons_append, List.nil_append]
          have hL41 := hL39.fp qf qi qp
          clear qf qi qp
          have kx42 := kxt_c (chR m) (((b + kxt (chR m) b 33) + 1) + 1) 61
          have kl43 := fun (z : chR m (((b + kxt (chR m) b 33) + 1) + 1) = 61) => lt_end (chR_end m) (a := (((b + kxt (chR m) b 33) + 1) + 1)) (by omega)
          have kb44 : ((((b + kxt (chR m) b 33) + 1) + 1) + kxt (chR m) (((b + kxt (chR m) b 33) + 1) + 1) 61) ≤ mi m 86 16 := by omega
          refine j_if_ne (tgt := 225) rfl (by decide) (by omega) (by omega) (fun hb217_3 => ?_) (fun hb217_3 => ?_)
          · skip
            rw [if_pos (by omega)] at hQ
            have hkp : ((((b + kxt (chR m) b 33) + 1) + 1) + kxt (chR m) (((b + kxt (chR m) b 33) + 1) + 1) 61) = (((b + kxt (chR m) b 33) + 1) + 1) + 1 := by omega
            rw [← hkp] at hQ
            refine j_aload_n rfl rfl ?_
            refine j_callV (ci := 12) rfl okX12_either c_X12_243 (ct_X12_eitherA G N40 ((((b + kxt (chR m) b 33) + 1) + 1) + kxt (chR m) (((b + kxt (chR m) b 33) + 1) + 1) 61) v (hL41.1.st hS) hL41.2.1 hL41.2.2.1 (by omega) (by rw [show mi N40 86 16 = mi m 86 16 from hL41.1.cell (by decide) (by decide) (by omega) (by decide)]; omega) (by omega)) rfl rfl ((hL41.1.st hS).lt (by decide)) ((hL41.1.st hS).k (by decide) (by decide)) (by decide) rfl (Nat.le_of_ble_eq_true rfl) (RB.call hRB (by omega) (by decide)) ⟨Nat.le_refl _, Nat.le_refl _⟩ ?_
            rintro vq N45 ⟨e1, hR⟩
            rw [e1]
            clear e1
            rw [hL41.1.ch] at hR
            simp only [Option.toList_some, Option.toList_none, List.nil_append]
            cases hres : pAll (chR m) true (((((b + kxt (chR m) b 33) + 1) + 1) + kxt (chR m) (((b + kxt (chR m) b 33) + 1) + 1) 61), v) with
            | error p =>
              rw [hres] at hR hQ
              obtain ⟨hFb, hIb, hX⟩ := hR
              have hX : PX N45 ((((b + kxt (chR m) b 33) + 1) + 1) + kxt (chR m) (((b + kxt (chR m) b 33) + 1) + 1) 61) v.length p := hX
              obtain ⟨x1, x2, x3, x4, x5, x6⟩ := hX
              have hFc := hL41.1.fp hFb
              have e16 : mi N45 86 16 = mi m 86 16 := hFc.cell (by decide) (by decide) (by omega) (by decide)
              have e91 : mi N45 91 6 = l := (hFb.cell (by decide) (by decide)).trans hL41.2.2.2.2
              refine j_aload_n rfl rfl ?_
              refine j_getR (q := 97) rfl f_X12_41 rfl ((hFc.st hS).lt (by decide)) ((hFc.st hS).k (by decide) (by decide)) ((hFc.st hS).r (by decide)) ?_
              refine j_iload_n rfl rfl ?_
              refine j_aload_n rfl rfl ?_
              refine j_getI rfl f_X12_216 rfl ((hFc.st hS).lt (by decide)) ((hFc.st hS).k (by decide) (by decide)) ?_
              have u235_5 := mi_rng N45 86 20
              refine j_iast (n := 84) rfl ((hFc.st hS).lt (by decide)) ((hFc.st hS).k (by decide) (by decide)) ((hFc.st hS).n (by decide) (by decide)) (by omega) (by omega) (by first | decide | omega) ?_
              have e91b : mi (si N45 97 (72 + l).toNat (mi N45 86 20)) 91 (6 : Int).toNat = l := (mi_si_ne _ _ (fun q => absurd q.1 (by decide))).trans e91
              refine j_aload_n rfl rfl ?_
              refine j_getR (q := 91) rfl f_X12_22 rfl ((hFc.st hS).lt (by decide)) ((hFc.st hS).k (by decide) (by decide)) ((hFc.st hS).r (by decide)) ?_
              refine j_bipush rfl (by decide) ?_
              refine j_dup2 rfl (Nat.ne_of_beq_eq_false rfl) (Nat.ne_of_beq_eq_false rfl) ?_
              refine j_iald (n := 7) rfl ((hFc.st hS).lt (by decide)) ((hFc.st hS).k (by decide) (by decide)) ((hFc.st hS).n (by decide) (by decide)) (by omega) (by omega) (by decide) ?_
              rw [show mi (si N45 97 (72 + l).toNat (mi N45 86 20)) 91 (6 : Int).toNat = mi N45 91 (6 : Int).toNat from by simp [mi_si, mi_fil, mi_cpr, mi_sl, mi_sr, ml_sl, ml_si, ml_sr, ml_fil, ml_cpr]]
              have u246_5 := hIb.a 91 (0) 12 (by decide) (6 : Int).toNat
              refine j_iconst rfl ?_
              refine j_iadd rfl ?_
              refine j_iast (n := 7) rfl ((hFc.st hS).lt (by decide)) ((hFc.st hS).k (by decide) (by decide)) ((hFc.st hS).n (by decide) (by decide)) (by omega) (by omega) (by first | decide | omega) ?_
              refine j_vret rfl rfl ?_ rfl (Nat.le_refl _)
              have hQ : (Except.error p : Except Int (PSt × LRec)) = R := hQ
              subst hQ
              refine ⟨rfl, ?_⟩
              rw [show mi (si N45 97 (72 + l).toNat (mi N45 86 20)) 91 (6 : Int).toNat = l from (mi_si_ne _ _ (fun q => absurd q.1 (by decide))).trans e91]
              exact PQ.err hFc hIb hl0 hl1 x1 x2 (by omega)
            | ok z =>
              rw [hres] at hR hQ
              obtain ⟨hFb, hIb, hPb⟩ := hR
              have hPb : PS N45 z.1 0 z.2 := hPb
              have hLz := hL41.fp hFb hIb hPb
              obtain ⟨g1, g2, w2, g3, g4, g5, -⟩ := (hg ((((b + kxt (chR m) b 33) + 1) + 1) + kxt (chR m) (((b + kxt (chR m) b 33) + 1) + 1) 61) v (by omega) (by omega)).1 z hres
              have g7 : (z.2.length : Int) ≤ v.length + (z.1 - ((((b + kxt (chR m) b 33) + 1) + 1) + kxt (chR m) (((b + kxt (chR m) b 33) + 1) + 1) 61)) := by rw [g3, List.length_append]; omega
              have e91 := hLz.2.2.2.2
              refine j_aload_n rfl rfl ?_
              refine j_getR (q := 97) rfl f_X12_41 rfl ((hLz.1.st hS).lt (by decide)) ((hLz.1.st hS).k (by decide) (by decide)) ((hLz.1.st hS).r (by decide)) ?_
              refine j_iload_n rfl rfl ?_
              refine j_aload_n rfl rfl ?_
              refine j_getI rfl f_X12_216 rfl ((hLz.1.st hS).lt (by decide)) ((hLz.1.st hS).k (by decide) (by decide)) ?_
              have u235_6 := mi_rng N45 86 20
              refine j_iast (n := 84) rfl ((hLz.1.st hS).lt (by decide)) ((hLz.1.st hS).k (by decide) (by decide)) ((hLz.1.st hS).n (by decide) (by decide)) (by omega) (by omega) (by first | decide | omega) ?_
              rw [hLz.2.2.1.2.2.2.1]
              have e91b : mi (si N45 97 (72 + l).toNat (z.2.length : Int)) 91 (6 : Int).toNat = l := (mi_si_ne _ _ (fun q => absurd q.1 (by decide))).trans e91
              refine j_aload_n rfl rfl ?_
              refine j_getR (q := 91) rfl f_X12_22 rfl ((hLz.1.st hS).lt (by decide)) ((hLz.1.st hS).k (by decide) (by decide)) ((hLz.1.st hS).r (by decide)) ?_
              refine j_bipush rfl (by decide) ?_
              refine j_dup2 rfl (Nat.ne_of_beq_eq_false rfl) (Nat.ne_of_beq_eq_false rfl) ?_
              refine j_iald (n := 7) rfl ((hLz.1.st hS).lt (by decide)) ((hLz.1.st hS).k (by decide) (by decide)) ((hLz.1.st hS).n (by decide) (by decide)) (by omega) (by omega) (by decide) ?_
              rw [show mi (si N45 97 (72 + l).toNat (z.2.length : Int)) 91 (6 : Int).toNat = mi N45 91 (6 : Int).toNat from by simp [mi_si, mi_fil, mi_cpr, mi_sl, mi_sr, ml_sl, ml_si, ml_sr, ml_fil, ml_cpr]]
              have u246_6 := hLz.2.1.a 91 (0) 12 (by decide) (6 : Int).toNat
              refine j_iconst rfl ?_
              refine j_iadd rfl ?_
              refine j_iast (n := 7) rfl ((hLz.1.st hS).lt (by decide)) ((hLz.1.st hS).k (by decide) (by decide)) ((hLz.1.st hS).n (by decide) (by decide)) (by omega) (by omega) (by first | decide | omega) ?_
              refine j_vret rfl rfl ?_ rfl (Nat.le_refl _)
              have hQ : (Except.ok (z, _) : Except Int (PSt × LRec)) = R := hQ
              subst hQ
              refine ⟨rfl, ?_⟩
              rw [e91b]
              exact PQ.fin hLz hl0 hl1 (by omega)
          · skip
            refine j_aload_n rfl rfl ?_
            refine j_callV (ci := 12) rfl okX12_wrong c_X12_222 (ct_X12_wrong (hL41.1.st hS) hL41.2.1) rfl rfl ((hL41.1.st hS).lt (by decide)) ((hL41.1.st hS).k (by decide) (by decide)) (by decide) rfl (Nat.le_of_ble_eq_true rfl) (RB.call hRB (by omega) (by decide)) ⟨Nat.le_refl _, Nat.le_refl _⟩ ?_
            rintro vq mq ⟨e1, e2⟩
            rw [if_neg (by rw [hL41.2.2.1.2.1]; decide), hL41.2.2.1.1] at e2
            rw [e1, e2]
            clear e1 e2
            simp only [Option.toList_some, Option.toList_none, List.cons_append, List.nil_append]
            have hB := hL41.bad (by omega) (by omega)
            refine j_vret rfl rfl ?_ rfl (Nat.le_refl _)
            exact ⟨rfl, by rw [if_neg (by omega)] at hQ; rw [← hQ]; exact ⟨hB.1, hB.2.1, hB.2.2⟩⟩
        · skip
          refine j_bipush rfl (by decide) ?_
          refine j_goto (tgt := 199) rfl (by decide) ?_
          refine j_iadd rfl ?_
          refine j_iast (n := 84) rfl ((hL12.1.st hS).lt (by decide)) ((hL12.1.st hS).k (by decide) (by decide)) ((hL12.1.st hS).n (by decide) (by decide)) (by omega) (by omega) (by first | decide | omega) ?_
          have hT : pTgt (chR m) (b + kxt (chR m) b 33) = .ok (((chR m ((b + kxt (chR m) b 33) + 1)) - 48) + 10) := by unfold pTgt; first | (rw [if_pos (by omega), if_pos (by omega)]; congr 1; omega) | (rw [if_neg (by omega), if_pos (by omega), if_pos (by omega)])
          unfold pRest at hQ
          rw [hT] at hQ
          dsimp only at hQ
          have hL47 := hL12.s94 (v := (((chR m ((b + kxt (chR m) b 33) + 1)) - 48) + 10)) (by omega)
          generalize si N11 94 (72 + l).toNat (((chR m ((b + kxt (chR m) b 33) + 1)) - 48) + 10) = N46 at hL47 ⊢
          refine j_aload_n rfl rfl ?_
          refine j_dup rfl (Nat.ne_of_beq_eq_false rfl) ?_
          refine j_getI rfl f_X12_210 rfl ((hL47.1.st hS).lt (by decide)) ((hL47.1.st hS).k (by decide) (by decide)) ?_
          have u203_4 := mi_rng N46 86 17
          refine j_iconst rfl ?_
          refine j_iadd rfl ?_
          refine j_putI rfl f_X12_210 rfl ((hL47.1.st hS).lt (by decide)) ((hL47.1.st hS).k (by decide) (by decide)) ?_
          rw [hL47.2.2.1.1]
          have hL49 := hL47.adv (d := (((b + kxt (chR m) b 33) + 1) + 1)) (by omega) (by omega)
          generalize si N46 86 17 (((b + kxt (chR m) b 33) + 1) + 1) = N48 at hL49 ⊢
          refine j_aload_n rfl rfl ?_
          refine j_bipush rfl (by decide) ?_
          refine j_callV (ci := 12) rfl okX12_isNext c_X12_261 (ct_X12_isNextU (hL49.1.st hS) hL49.2.1 hL49.2.2.1 (by omega) (by rw [show mi N48 86 16 = mi m 86 16 from hL49.1.cell (by decide) (by decide) (by omega) (by decide)]; omega) (by omega) (by decide)) rfl rfl ((hL49.1.st hS).lt (by decide)) ((hL49.1.st hS).k (by decide) (by decide)) (by decide) rfl (Nat.le_of_ble_eq_true rfl) (RB.call hRB (by omega) (by decide)) ⟨Nat.le_refl _, Nat.le_refl _⟩ ?_
          rintro vq N50 ⟨e1, qf, qi, qp⟩
          rw [hL49.1.ch] at e1 qp
          rw [e1]
          clear e1
          simp only [Option.toList_some, Option.toList_none, List.cons_append, List.nil_append]
          have hL51 := hL49.fp qf qi qp
          clear qf qi qp
          have kx52 := kxt_c (chR m) (((b + kxt (chR m) b 33) + 1) + 1) 61
          have kl53 := fun (z : chR m (((b + kxt (chR m) b 33) + 1) + 1) = 61) => lt_end (chR_end m) (a := (((b + kxt (chR m) b 33) + 1) + 1)) (by omega)
          have kb54 : ((((b + kxt (chR m) b 33) + 1) + 1) + kxt (chR m) (((b + kxt (chR m) b 33) + 1) + 1) 61) ≤ mi m 86 16 := by omega
          refine j_if_ne (tgt := 225) rfl (by decide) (by omega) (by omega) (fun hb217_4 => ?_) (fun hb217_4 => ?_)
          · skip
            rw [if_pos (by omega)] at hQ
            have hkp : ((((b + kxt (chR m) b 33) + 1) + 1) + kxt (chR m) (((b + kxt (chR m) b 33) + 1) + 1) 61) = (((b + kxt (chR m) b 33) + 1) + 1) + 1 := by omega
            rw [← hkp] at hQ
            refine j_aload_n rfl rfl ?_
            refine j_callV (ci := 12) rfl okX12_either c_X12_243 (ct_X12_eitherA G N50 ((((b + kxt (chR m) b 33) + 1) + 1) + kxt (chR m) (((b + kxt (chR m) b 33) + 1) + 1) 61) v (hL51.1.st hS) hL51.2.1 hL51.2.2.1 (by omega) (by rw [show mi N50 86 16 = mi m 86 16 from hL51.1.cell (by decide) (by decide) (by omega) (by decide)]; omega) (by omega)) rfl rfl ((hL51.1.st hS).lt (by decide)) ((hL51.1.st hS).k (by decide) (by decide)) (by decide) rfl (Nat.le_of_ble_eq_true rfl) (RB.call hRB (by omega) (by decide)) ⟨Nat.le_refl _, Nat.le_refl _⟩ ?_
            rintro vq N55 ⟨e1, hR⟩
            rw [e1]
            clear e1
            rw [hL51.1.ch] at hR
            simp only [Option.toList_some, Option.toList_none, List.nil_append]
            cases hres : pAll (chR m) true (((((b + kxt (chR m) b 33) + 1) + 1) + kxt (chR m) (((b + kxt (chR m) b 33) + 1) + 1) 61), v) with
            | error p =>
              rw [hres] at hR hQ
              obtain ⟨hFb, hIb, hX⟩ := hR
              have hX : PX N55 ((((b + kxt (chR m) b 33) + 1) + 1) + kxt (chR m) (((b + kxt (chR m) b 33) + 1) + 1) 61) v.length p := hX
              obtain ⟨x1, x2, x3, x4, x5, x6⟩ := hX
              have hFc := hL51.1.fp hFb
              have e16 : mi N55 86 16 = mi m 86 16 := hFc.cell (by decide) (by decide) (by omega) (by decide)
              have e91 : mi N55 91 6 = l := (hFb.cell (by decide) (by decide)).trans hL51.2.2.2.2
              refine j_aload_n rfl rfl ?_
              refine j_getR (q := 97) rfl f_X12_41 rfl ((hFc.st hS).lt (by decide)) ((hFc.st hS).k (by decide) (by decide)) ((hFc.st hS).r (by decide)) ?_
              refine j_iload_n rfl rfl ?_
              refine j_aload_n rfl rfl ?_
              refine j_getI rfl f_X12_216 rfl ((hFc.st hS).lt (by decide)) ((hFc.st hS).k (by decide) (by decide)) ?_
              have u235_7 := mi_rng N55 86 20
              refine j_iast (n := 84) rfl ((hFc.st hS).lt (by decide)) ((hFc.st hS).k (by decide) (by decide)) ((hFc.st hS).n (by decide) (by decide)) (by omega) (by omega) (by first | decide | omega) ?_
              have e91b : mi (si N55 97 (72 + l).toNat (mi N55 86 20)) 91 (6 : Int).toNat = l := (mi_si_ne _ _ (fun q => absurd q.1 (by decide))).trans e91
              refine j_aload_n rfl rfl ?_
              refine j_getR (q := 91) rfl f_X12_22 rfl ((hFc.st hS).lt (by decide)) ((hFc.st hS).k (by decide) (by decide)) ((hFc.st hS).r (by decide)) ?_
              refine j_bipush rfl (by decide) ?_
              refine j_dup2 rfl (Nat.ne_of_beq_eq_false rfl) (Nat.ne_of_beq_eq_false rfl) ?_
              refine j_iald (n := 7) rfl ((hFc.st hS).lt (by decide)) ((hFc.st hS).k (by decide) (by decide)) ((hFc.st hS).n (by decide) (by decide)) (by omega) (by omega) (by decide) ?_
              rw [show mi (si N55 97 (72 + l).toNat (mi N55 86 20)) 91 (6 : Int).toNat = mi N55 91 (6 : Int).toNat from by simp [mi_si, mi_fil, mi_cpr, mi_sl, mi_sr, ml_sl, ml_si, ml_sr, ml_fil, ml_cpr]]
              have u246_7 := hIb.a 91 (0) 12 (by decide) (6 : Int).toNat
              refine j_iconst rfl ?_
              refine j_iadd rfl ?_
              refine j_iast (n := 7) rfl ((hFc.st hS).lt (by decide)) ((hFc.st hS).k (by decide) (by decide)) ((hFc.st hS).n (by decide) (by decide)) (by omega) (by omega) (by first | decide | omega) ?_
              refine j_vret rfl rfl ?_ rfl (Nat.le_refl _)
              have hQ : (Except.error p : Except Int (PSt × LRec)) = R := hQ
              subst hQ
              refine ⟨rfl, ?_⟩
              rw [show mi (si N55 97 (72 + l).toNat (mi N55 86 20)) 91 (6 : Int).toNat = l from (mi_si_ne _ _ (fun q => absurd q.1 (by decide))).trans e91]
              exact PQ.err hFc hIb hl0 hl1 x1 x2 (by omega)
            | ok z =>
              rw [hres] at hR hQ
              obtain ⟨hFb, hIb, hPb⟩ := hR
              have hPb : PS N55 z.1 0 z.2 := hPb
              have hLz := hL51.fp hFb hIb hPb
              obtain ⟨g1, g2, w2, g3, g4, g5, -⟩ := (hg ((((b + kxt (chR m) b 33) + 1) + 1) + kxt (chR m) (((b + kxt (chR m) b 33) + 1) + 1) 61) v (by omega) (by omega)).1 z hres
              have g7 : (z.2.length : Int) ≤ v.length + (z.1 - ((((b + kxt (chR m) b 33) + 1) + 1) + kxt (chR m) (((b + kxt (chR m) b 33) + 1) + 1) 61)) := by rw [g3, List.length_append]; omega
              have e91 := hLz.2.2.2.2
              refine j_aload_n rfl rfl ?_
              refine j_getR (q := 97) rfl f_X12_41 rfl ((hLz.1.st hS).lt (by decide)) ((hLz.1.st hS).k (by decide) (by decide)) ((hLz.1.st hS).r (by decide)) ?_
              refine j_iload_n rfl rfl ?_
              refine j_aload_n rfl rfl ?_
              refine j_getI rfl f_X12_216 rfl ((hLz.1.st hS).lt (by decide)) ((hLz.1.st hS).k (by decide) (by decide)) ?_
              have u235_8 := mi_rng N55 86 20
              refine j_iast (n := 84) rfl ((hLz.1.st hS).lt (by decide)) ((hLz.1.st hS).k (by decide) (by decide)) ((hLz.1.st hS).n (by decide) (by decide)) (by omega) (by omega) (by first | decide | omega) ?_
              rw [hLz.2.2.1.2.2.2.1]
              have e91b : mi (si N55 97 (72 + l).toNat (z.2.length : Int)) 91 (6 : Int).toNat = l := (mi_si_ne _ _ (fun q => absurd q.1 (by decide))).trans e91
              refine j_aload_n rfl rfl ?_
              refine j_getR (q := 91) rfl f_X12_22 rfl ((hLz.1.st hS).lt (by decide)) ((hLz.1.st hS).k (by decide) (by decide)) ((hLz.1.st hS).r (by decide)) ?_
              refine j_bipush rfl (by decide) ?_
              refine j_dup2 rfl (Nat.ne_of_beq_eq_false rfl) (Nat.ne_of_beq_eq_false rfl) ?_
              refine j_iald (n := 7) rfl ((hLz.1.st hS).lt (by decide)) ((hLz.1.st hS).k (by decide) (by decide)) ((hLz.1.st hS).n (by decide) (by decide)) (by omega) (by omega) (by decide) ?_
              rw [show mi (si N55 97 (72 + l).toNat (z.2.length : Int)) 91 (6 : Int).toNat = mi N55 91 (6 : Int).toNat from by simp [mi_si, mi_fil, mi_cpr, mi_sl, mi_sr, ml_sl, ml_si, ml_sr, ml_fil, ml_cpr]]
              have u246_8 := hLz.2.1.a 91 (0) 12 (by decide) (6 : Int).toNat
              refine j_iconst rfl ?_
              refine j_iadd rfl ?_
              refine j_iast (n := 7) rfl ((hLz.1.st hS).lt (by decide)) ((hLz.1.st hS).k (by decide) (by decide)) ((hLz.1.st hS).n (by decide) (by decide)) (by omega) (by omega) (by first | decide | omega) ?_
              refine j_vret rfl rfl ?_ rfl (Nat.le_refl _)
              have hQ : (Except.ok (z, _) : Except Int (PSt × LRec)) = R := hQ
              subst hQ
              refine ⟨rfl, ?_⟩
              rw [e91b]
              exact PQ.fin hLz hl0 hl1 (by omega)
          · skip
            refine j_aload_n rfl rfl ?_
            refine j_callV (ci := 12) rfl okX12_wrong c_X12_222 (ct_X12_wrong (hL51.1.st hS) hL51.2.1) rfl rfl ((hL51.1.st hS).lt (by decide)) ((hL51.1.st hS).k (by decide) (by decide)) (by decide) rfl (Nat.le_of_ble_eq_true rfl) (RB.call hRB (by omega) (by decide)) ⟨Nat.le_refl _, Nat.le_refl _⟩ ?_
            rintro vq mq ⟨e1, e2⟩
            rw [if_neg (by rw [hL51.2.2.1.2.1]; decide), hL51.2.2.1.1] at e2
            rw [e1, e2]
            clear e1 e2
            simp only [Option.toList_some, Option.toList_none, List.cons_append, List.nil_append]
            have hB := hL51.bad (by omega) (by omega)
            refine j_vret rfl rfl ?_ rfl (Nat.le_refl _)
            exact ⟨rfl, by rw [if_neg (by omega)] at hQ; rw [← hQ]; exact ⟨hB.1, hB.2.1, hB.2.2⟩⟩
      · skip
        refine j_aload_n rfl rfl ?_
        refine j_callV (ci := 12) rfl okX12_wrong c_X12_222 (ct_X12_wrong (hL12.1.st hS) hL12.2.1) rfl rfl ((hL12.1.st hS).lt (by decide)) ((hL12.1.st hS).k (by decide) (by decide)) (by decide) rfl (Nat.le_of_ble_eq_true rfl) (RB.call hRB (by omega) (by decide)) ⟨Nat.le_refl _, Nat.le_refl _⟩ ?_
        rintro vq mq ⟨e1, e2⟩
        rw [if_neg (by rw [hL12.2.2.1.2.1]; decide), hL12.2.2.1.1] at e2
        rw [e1, e2]
        clear e1 e2
        simp only [Option.toList_some, Option.toList_none, List.cons_append, List.nil_append]
        have hB := hL12.bad (by omega) (by omega)
        refine j_vret rfl rfl ?_ rfl (Nat.le_refl _)
        exact ⟨rfl, by rw [← hQ]; unfold pRest pTgt; first | (rw [if_neg (by omega), if_neg (by omega)]; exact ⟨hB.1, hB.2.1, hB.2.2⟩) | (rw [if_pos (by omega), if_neg (by omega)]; exact ⟨hB.1, hB.2.1, hB.2.2⟩) | (rw [if_neg (by omega), if_pos (by omega), if_neg (by omega)]; exact ⟨hB.1, hB.2.1, hB.2.2⟩)⟩
  · skip
    refine j_iload_n rfl rfl ?_
    refine j_bipush rfl (by decide) ?_
    refine j_icmp_eq (tgt := 135) rfl (by decide) (by omega) (by omega) (by omega) (by omega) (fun hb127_1 => ?_) (fun hb127_1 => ?_)
    · skip
      refine j_aload_n rfl rfl ?_
      refine j_dup rfl (Nat.ne_of_beq_eq_false rfl) ?_
      refine j_getI rfl f_X12_210 rfl ((hL9.1.st hS).lt (by decide)) ((hL9.1.st hS).k (by decide) (by decide)) ?_
      have u137_2 := mi_rng N8 86 17
      refine j_iconst rfl ?_
      refine j_iadd rfl ?_
      refine j_putI rfl f_X12_210 rfl ((hL9.1.st hS).lt (by decide)) ((hL9.1.st hS).k (by decide) (by decide)) ?_
      rw [hL9.2.2.1.1]
      have hL57 := hL9.adv (d := ((b + kxt (chR m) b 33) + 1)) (by omega) (by omega)
      generalize si N8 86 17 ((b + kxt (chR m) b 33) + 1) = N56 at hL57 ⊢
      refine j_aload_n rfl rfl ?_
      refine j_callV (ci := 12) rfl okX12_look c_X12_225 (ct_X12_look (hL57.1.st hS) hL57.2.1 (by rw [hL57.2.2.1.1]; omega) (by rw [hL57.2.2.1.1]; omega)) rfl rfl ((hL57.1.st hS).lt (by decide)) ((hL57.1.st hS).k (by decide) (by decide)) (by decide) rfl (Nat.le_of_ble_eq_true rfl) (RB.call hRB (by omega) (by decide)) ⟨Nat.le_refl _, Nat.le_refl _⟩ ?_
      rintro vq mq ⟨e1, e2⟩
      rw [hL57.1.ch, hL57.2.2.1.1] at e1
      rw [e1, e2]
      clear e1 e2
      simp only [Option.toList_some, Option.toList_none, List.cons_append, List.nil_append]
      have cr58 := chR_rng hI0 ((b + kxt (chR m) b 33) + 1)
      refine j_bipush rfl (by decide) ?_
      refine j_iload_n rfl rfl ?_
      refine j_bipush rfl (by decide) ?_
      refine j_icmp_ne (tgt := 162) rfl (by decide) (by omega) (by omega) (by omega) (by omega) (fun hb154_2 => ?_) (fun hb154_2 => ?_)
      · skip
        refine j_bipush rfl (by decide) ?_
        refine j_callS (As := [_, _, _]) rfl okX12_in c_X12_194 (ct_X12_in (by omega) (by omega) (by omega) (by omega) (by omega) (by omega)) rfl rfl (Nat.le_of_ble_eq_true rfl) (RB.call hRB (by omega) (by decide)) ⟨Nat.le_refl _, Nat.le_refl _⟩ ?_
        rintro vq mq ⟨e1, e2⟩
        rw [e1, e2]
        clear e1 e2
        simp only [Option.toList_some, Option.toList_none, List.cons_append, List.nil_append]
        refine j_bif_ne (tgt := 175) rfl (by decide) (fun hb167_3 => ?_) (fun hb167_3 => ?_)
        · skip
          refine j_aload_n rfl rfl ?_
          refine j_getR (q := 94) rfl f_X12_32 rfl ((hL57.1.st hS).lt (by decide)) ((hL57.1.st hS).k (by decide) (by decide)) ((hL57.1.st hS).r (by decide)) ?_
          refine j_iload_n rfl rfl ?_
          refine j_aload_n rfl rfl ?_
          refine j_callV (ci := 12) rfl okX12_look c_X12_225 (ct_X12_look (hL57.1.st hS) hL57.2.1 (by rw [hL57.2.2.1.1]; omega) (by rw [hL57.2.2.1.1]; omega)) rfl rfl ((hL57.1.st hS).lt (by decide)) ((hL57.1.st hS).k (by decide) (by decide)) (by decide) rfl (Nat.le_of_ble_eq_true rfl) (RB.call hRB (by omega) (by decide)) ⟨Nat.le_refl _, Nat.le_refl _⟩ ?_
          rintro vq mq ⟨e1, e2⟩
          rw [hL57.1.ch, hL57.2.2.1.1] at e1
          rw [e1, e2]
          clear e1 e2
          simp only [Option.toList_some, Option.toList_none, List.cons_append, List.nil_append]
          have cr59 := chR_rng hI0 ((b + kxt (chR m) b 33) + 1)
          refine j_bipush rfl (by decide) ?_
          refine j_isub rfl ?_
          refine j_iload_n rfl rfl ?_
          refine j_bipush rfl (by decide) ?_
          refine j_icmp_ne (tgt := 198) rfl (by decide) (by omega) (by omega) (by omega) (by omega) (fun hb190_3 => ?_) (fun hb190_3 => ?_)
          · skip
            refine j_iconst rfl ?_
            refine j_iadd rfl ?_
            refine j_iast (n := 84) rfl ((hL57.1.st hS).lt (by decide)) ((hL57.1.st hS).k (by decide) (by decide)) ((hL57.1.st hS).n (by decide) (by decide)) (by omega) (by omega) (by first | decide | omega) ?_
            have hT : pTgt (chR m) (b + kxt (chR m) b 33) = .ok (((chR m ((b + kxt (chR m) b 33) + 1)) - 48) + 0) := by unfold pTgt; first | (rw [if_pos (by omega), if_pos (by omega)]; congr 1; omega) | (rw [if_neg (by omega), if_pos (by omega), if_pos (by omega)])
            unfold pRest at hQ
            rw [hT] at hQ
            dsimp only at hQ
            have hL61 := hL57.s94 (v := (((chR m ((b + kxt (chR m) b 33) + 1)) - 48) + 0)) (by omega)
            generalize si N56 94 (72 + l).toNat (((chR m ((b + kxt (chR m) b 33) + 1)) - 48) + 0) = N60 at hL61 ⊢
            refine j_aload_n rfl rfl ?_
            refine j_dup rfl (Nat.ne_of_beq_eq_false rfl) ?_
            refine j_getI rfl f_X12_210 rfl ((hL61.1.st hS).lt (by decide)) ((hL61.1.st hS).k (by decide) (by decide)) ?_
            have u203_5 := mi_rng N60 86 17
            refine j_iconst rfl ?_
            refine j_iadd rfl ?_
            refine j_putI rfl f_X12_210 rfl ((hL61.1.st hS).lt (by decide)) ((hL61.1.st hS).k (by decide) (by decide)) ?_
            rw [hL61.2.2.1.1]
            have hL63 := hL61.adv (d := (((b + kxt (chR m) b 33) + 1) + 1)) (by omega) (by omega)
            generalize si N60 86 17 (((b + kxt (chR m) b 33) + 1) + 1) = N62 at hL63 ⊢
            refine j_aload_n rfl rfl ?_
            refine j_bipush rfl (by decide) ?_
            refine j_callV (ci := 12) rfl okX12_isNext c_X12_261 (ct_X12_isNextU (hL63.1.st hS) hL63.2.1 hL63.2.2.1 (by omega) (by rw [show mi N62 86 16 = mi m 86 16 from hL63.1.cell (by decide) (by decide) (by omega) (by decide)]; omega) (by omega) (by decide)) rfl rfl ((hL63.1.st hS).lt (by decide)) ((hL63.1.st hS).k (by decide) (by decide)) (by decide) rfl (Nat.le_of_ble_eq_true rfl) (RB.call hRB (by omega) (by decide)) ⟨Nat.le_refl _, Nat.le_refl _⟩ ?_
            rintro vq N64 ⟨e1, qf, qi, qp⟩
            rw [hL63.1.ch] at e1 qp
            rw [e1]
            clear e1
            simp only [Option.toList_some, Option.toList_none, List.cons_append, List.nil_append]
            have hL65 := hL63.fp qf qi qp
            clear qf qi qp
            have kx66 := kxt_c (chR m) (((b + kxt (chR m) b 33) + 1) + 1) 61
            have kl67 := fun (z : chR m (((b + kxt (chR m) b 33) + 1) + 1) = 61) => lt_end (chR_end m) (a := (((b + kxt (chR m) b 33) + 1) + 1)) (by omega)
            have kb68 : ((((b + kxt (chR m) b 33) + 1) + 1) + kxt (chR m) (((b + kxt (chR m) b 33) + 1) + 1) 61) ≤ mi m 86 16 := by omega
            refine j_if_ne (tgt := 225) rfl (by decide) (by omega) (by omega) (fun hb217_5 => ?_) (fun hb217_5 => ?_)
            · skip
              rw [if_pos (by omega)] at hQ
              have hkp : ((((b + kxt (chR m) b 33) + 1) + 1) + kxt (chR m) (((b + kxt (chR m) b 33) + 1) + 1) 61) = (((b + kxt (chR m) b 33) + 1) + 1) + 1 := by omega
              rw [← hkp] at hQ
              refine j_aload_n rfl rfl ?_
              refine j_callV (ci := 12) rfl okX12_either c_X12_243 (ct_X12_eitherA G N64 ((((b + kxt (chR m) b 33) + 1) + 1) + kxt (chR m) (((b + kxt (chR m) b 33) + 1) + 1) 61) v (hL65.1.st hS) hL65.2.1 hL65.2.2.1 (by omega) (by rw [show mi N64 86 16 = mi m 86 16 from hL65.1.cell (by decide) (by decide) (by omega) (by decide)]; omega) (by omega)) rfl rfl ((hL65.1.st hS).lt (by decide)) ((hL65.1.st hS).k (by decide) (by decide)) (by decide) rfl (Nat.le_of_ble_eq_true rfl) (RB.call hRB (by omega) (by decide)) ⟨Nat.le_refl _, Nat.le_refl _⟩ ?_
              rintro vq N69 ⟨e1, hR⟩
              rw [e1]
              clear e1
              rw [hL65.1.ch] at hR
              simp only [Option.toList_some, Option.toList_none, List.nil_append]
              cases hres : pAll (chR m) true (((((b + kxt (chR m) b 33) + 1) + 1) + kxt (chR m) (((b + kxt (chR m) b 33) + 1) + 1) 61), v) with
              | error p =>
                rw [hres] at hR hQ
                obtain ⟨hFb, hIb, hX⟩ := hR
                have hX : PX N69 ((((b + kxt (chR m) b 33) + 1) + 1) + kxt (chR m) (((b + kxt (chR m) b 33) + 1) + 1) 61) v.length p := hX
                obtain ⟨x1, x2, x3, x4, x5, x6⟩ := hX
                have hFc := hL65.1.fp hFb
                have e16 : mi N69 86 16 = mi m 86 16 := hFc.cell (by decide) (by decide) (by omega) (by decide)
                have e91 : mi N69 91 6 = l := (hFb.cell (by decide) (by decide)).trans hL65.2.2.2.2
                refine j_aload_n rfl rfl ?_
                refine j_getR (q := 97) rfl f_X12_41 rfl ((hFc.st hS).lt (by decide)) ((hFc.st hS).k (by decide) (by decide)) ((hFc.st hS).r (by decide)) ?_
                refine j_iload_n rfl rfl ?_
                refine j_aload_n rfl rfl ?_
                refine j_getI rfl f_X12_216 rfl ((hFc.st hS).lt (by decide)) ((hFc.st hS).k (by decide) (by decide)) ?_
                have u235_9 := mi_rng N69 86 20
                refine j_iast (n := 84) rfl ((hFc.st hS).lt (by decide)) ((hFc.st hS).k (by decide) (by decide)) ((hFc.st hS).n (by decide) (by decide)) (by omega) (by omega) (by first | decide | omega) ?_
                have e91b : mi (si N69 97 (72 + l).toNat (mi N69 86 20)) 91 (6 : Int).toNat = l := (mi_si_ne _ _ (fun q => absurd q.1 (by decide))).trans e91
                refine j_aload_n rfl rfl ?_
                refine j_getR (q := 91) rfl f_X12_22 rfl ((hFc.st hS).lt (by decide)) ((hFc.st hS).k (by decide) (by decide)) ((hFc.st hS).r (by decide)) ?_
                refine j_bipush rfl (by decide) ?_
                refine j_dup2 rfl (Nat.ne_of_beq_eq_false rfl) (Nat.ne_of_beq_eq_false rfl) ?_
                refine j_iald (n := 7) rfl ((hFc.st hS).lt (by decide)) ((hFc.st hS).k (by decide) (by decide)) ((hFc.st hS).n (by decide) (by decide)) (by omega) (by omega) (by decide) ?_
                rw [show mi (si N69 97 (72 + l).toNat (mi N69 86 20)) 91 (6 : Int).toNat = mi N69 91 (6 : Int).toNat from by simp [mi_si, mi_fil, mi_cpr, mi_sl, mi_sr, ml_sl, ml_si, ml_sr, ml_fil, ml_cpr]]
                have u246_9 := hIb.a 91 (0) 12 (by decide) (6 : Int).toNat
                refine j_iconst rfl ?_
                refine j_iadd rfl ?_
                refine j_iast (n := 7) rfl ((hFc.st hS).lt (by decide)) ((hFc.st hS).k (by decide) (by decide)) ((hFc.st hS).n (by decide) (by decide)) (by omega) (by omega) (by first | decide | omega) ?_
                refine j_vret rfl rfl ?_ rfl (Nat.le_refl _)
                have hQ : (Except.error p : Except Int (PSt × LRec)) = R := hQ
                subst hQ
                refine ⟨rfl, ?_⟩
                rw [show mi (si N69 97 (72 + l).toNat (mi N69 86 20)) 91 (6 : Int).toNat = l from (mi_si_ne _ _ (fun q => absurd q.1 (by decide))).trans e91]
                exact PQ.err hFc hIb hl0 hl1 x1 x2 (by omega)
              | ok z =>
                rw [hres] at hR hQ
                obtain ⟨hFb, hIb, hPb⟩ := hR
                have hPb : PS N69 z.1 0 z.2 := hPb
                have hLz := hL65.fp hFb hIb hPb
                obtain ⟨g1, g2, w2, g3, g4, g5, -⟩ := (hg ((((b + kxt (chR m) b 33) + 1) + 1) + kxt (chR m) (((b + kxt (chR m) b 33) + 1) + 1) 61) v (by omega) (by omega)).1 z hres
                have g7 : (z.2.length : Int) ≤ v.length + (z.1 - ((((b + kxt (chR m) b 33) + 1) + 1) + kxt (chR m) (((b + kxt (chR m) b 33) + 1) + 1) 61)) := by rw [g3, List.length_append]; omega
                have e91 := hLz.2.2.2.2
                refine j_aload_n rfl rfl ?_
                refine j_getR (q := 97) rfl f_X12_41 rfl ((hLz.1.st hS).lt (by decide)) ((hLz.1.st hS).k (by decide) (by decide)) ((hLz.1.st hS).r (by decide)) ?_
                refine j_iload_n rfl rfl ?_
                refine j_aload_n rfl rfl ?_
                refine j_getI rfl f_X12_216 rfl ((hLz.1.st hS).lt (by decide)) ((hLz.1.st hS).k (by decide) (by decide)) ?_
                have u235_10 := mi_rng N69 86 20
                refine j_iast (n := 84) rfl ((hLz.1.st hS).lt (by decide)) ((hLz.1.st hS).k (by decide) (by decide)) ((hLz.1.st hS).n (by decide) (by decide)) (by omega) (by omega) (by first | decide | omega) ?_
                rw [hLz.2.2.1.2.2.2.1]
                have e91b : mi (si N69 97 (72 + l).toNat (z.2.length : Int)) 91 (6 : Int).toNat = l := (mi_si_ne _ _ (fun q => absurd q.1 (by decide))).trans e91
                refine j_aload_n rfl rfl ?_
                refine j_getR (q := 91) rfl f_X12_22 rfl ((hLz.1.st hS).lt (by decide)) ((hLz.1.st hS).k (by decide) (by decide)) ((hLz.1.st hS).r (by decide)) ?_
                refine j_bipush rfl (by decide) ?_
                refine j_dup2 rfl (Nat.ne_of_beq_eq_false rfl) (Nat.ne_of_beq_eq_false rfl) ?_
                refine j_iald (n := 7) rfl ((hLz.1.st hS).lt (by decide)) ((hLz.1.st hS).k (by decide) (by decide)) ((hLz.1.st hS).n (by decide) (by decide)) (by omega) (by omega) (by decide) ?_
                rw [show mi (si N69 97 (72 + l).toNat (z.2.length : Int)) 91 (6 : Int).toNat = mi N69 91 (6 : Int).toNat from by simp [mi_si, mi_fil, mi_cpr, mi_sl, mi_sr, ml_sl, ml_si, ml_sr, ml_fil, ml_cpr]]
                have u246_10 := hLz.2.1.a 91 (0) 12 (by decide) (6 : Int).toNat
                refine j_iconst rfl ?_
                refine j_iadd rfl ?_
                refine j_iast (n := 7) rfl ((hLz.1.st hS).lt (by decide)) ((hLz.1.st hS).k (by decide) (by decide)) ((hLz.1.st hS).n (by decide) (by decide)) (by omega) (by omega) (by first | decide | omega) ?_
                refine j_vret rfl rfl ?_ rfl (Nat.le_refl _)
                have hQ : (Except.ok (z, _) : Except Int (PSt × LRec)) = R := hQ
                subst hQ
                refine ⟨rfl, ?_⟩
                rw [e91b]
                exact PQ.fin hLz hl0 hl1 (by omega)
            · skip
              refine j_aload_n rfl rfl ?_
              refine j_callV (ci := 12) rfl okX12_wrong c_X12_222 (ct_X12_wrong (hL65.1.st hS) hL65.2.1) rfl rfl ((hL65.1.st hS).lt (by decide)) ((hL65.1.st hS).k (by decide) (by decide)) (by decide) rfl (Nat.le_of_ble_eq_true rfl) (RB.call hRB (by omega) (by decide)) ⟨Nat.le_refl _, Nat.le_refl _⟩ ?_
              rintro vq mq ⟨e1, e2⟩
              rw [if_neg (by rw [hL65.2.2.1.2.1]; decide), hL65.2.2.1.1] at e2
              rw [e1, e2]
              clear e1 e2
              simp only [Option.toList_some, Option.toList_none, List.cons_append, List.nil_append]
              have hB := hL65.bad (by omega) (by omega)
              refine j_vret rfl rfl ?_ rfl (Nat.le_refl _)
              exact ⟨rfl, by rw [if_neg (by omega)] at hQ; rw [← hQ]; exact ⟨hB.1, hB.2.1, hB.2.2⟩⟩
          · skip
            refine j_bipush rfl (by decide) ?_
            refine j_goto (tgt := 199) rfl (by decide) ?_
            refine j_iadd rfl ?_
            refine j_iast (n := 84) rfl ((hL57.1.st hS).lt (by decide)) ((hL57.1.st hS).k (by decide) (by decide)) ((hL57.1.st hS).n (by decide) (by decide)) (by omega) (by omega) (by first | decide | omega) ?_
            have hT : pTgt (chR m) (b + kxt (chR m) b 33) = .ok (((chR m ((b + kxt (chR m) b 33) + 1)) - 48) + 10) := by unfold pTgt; first | (rw [if_pos (by omega), if_pos (by omega)]; congr 1; omega) | (rw [if_neg (by omega), if_pos (by omega), if_pos (by omega)])
            unfold pRest at hQ
            rw [hT] at hQ
            dsimp only at hQ
            have hL71 := hL57.s94 (v := (((chR m ((b + kxt (chR m) b 33) + 1)) - 48) + 10)) (by omega)
            generalize si N56 94 (72 + l).toNat (((chR m ((b + kxt (chR m) b 33) + 1)) - 48) + 10) = N70 at hL71 ⊢
            refine j_aload_n rfl rfl ?_
            refine j_dup rfl (Nat.ne_of_beq_eq_false rfl) ?_
            refine j_getI rfl f_X12_210 rfl ((hL71.1.st hS).lt (by decide)) ((hL71.1.st hS).k (by decide) (by decide)) ?_
            have u203_6 := mi_rng N70 86 17
            refine j_iconst rfl ?_
            refine j_iadd rfl ?_
            refine j_putI rfl f_X12_210 rfl ((hL71.1.st hS).lt (by decide)) ((hL71.1.st hS).k (by decide) (by decide)) ?_
            rw [hL71.2.2.1.1]
            have hL73 := hL71.adv (d := (((b + kxt (chR m) b 33) + 1) + 1)) (by omega) (by omega)
            generalize si N70 86 17 (((b + kxt (chR m) b 33) + 1) + 1) = N72 at hL73 ⊢
            refine j_aload_n rfl rfl ?_
            refine j_bipush rfl (by decide) ?_
            refine j_callV (ci := 12) rfl okX12_isNext c_X12_261 (ct_X12_isNextU (hL73.1.st hS) hL73.2.1 hL73.2.2.1 (by omega) (by rw [show mi N72 86 16 = mi m 86 16 from hL73.1.cell (by decide) (by decide) (by omega) (by decide)]; omega) (by omega) (by decide)) rfl rfl ((hL73.1.st hS).lt (by decide)) ((hL73.1.st hS).k (by decide) (by decide)) (by decide) rfl (Nat.le_of_ble_eq_true rfl) (RB.call hRB (by omega) (by decide)) ⟨Nat.le_refl _, Nat.le_refl _⟩ ?_
            rintro vq N74 ⟨e1, qf, qi, qp⟩
            rw [hL73.1.ch] at e1 qp
            rw [e1]
            clear e1
            simp only [Option.toList_some, Option.toList_none, List.cons_append, List.nil_append]
            have hL75 := hL73.fp qf qi qp
            clear qf qi qp
            have kx76 := kxt_c (chR m) (((b + kxt (chR m) b 33) + 1) + 1) 61
            have kl77 := fun (z : chR m (((b + kxt (chR m) b 33) + 1) + 1) = 61) => lt_end (chR_end m) (a := (((b + kxt (chR m) b 33) + 1) + 1)) (by omega)
            have kb78 : ((((b + kxt (chR m) b 33) + 1) + 1) + kxt (chR m) (((b + kxt (chR m) b 33) + 1) + 1) 61) ≤ mi m 86 16 := by omega
            refine j_if_ne (tgt := 225) rfl (by decide) (by omega) (by omega) (fun hb217_6 => ?_) (fun hb217_6 => ?_)
            · skip
              rw [if_pos (by omega)] at hQ
              have hkp : ((((b + kxt (chR m) b 33) + 1) + 1) + kxt (chR m) (((b + kxt (chR m) b 33) + 1) + 1) 61) = (((b + kxt (chR m) b 33) + 1) + 1) + 1 := by omega
              rw [← hkp] at hQ
              refine j_aload_n rfl rfl ?_
              refine j_callV (ci := 12) rfl okX12_either c_X12_243 (ct_X12_eitherA G N74 ((((b + kxt (chR m) b 33) + 1) + 1) + kxt (chR m) (((b + kxt (chR m) b 33) + 1) + 1) 61) v (hL75.1.st hS) hL75.2.1 hL75.2.2.1 (by omega) (by rw [show mi N74 86 16 = mi m 86 16 from hL75.1.cell (by decide) (by decide) (by omega) (by decide)]; omega) (by omega)) rfl rfl ((hL75.1.st hS).lt (by decide)) ((hL75.1.st hS).k (by decide) (by decide)) (by decide) rfl (Nat.le_of_ble_eq_true rfl) (RB.call hRB (by omega) (by decide)) ⟨Nat.le_refl _, Nat.le_refl _⟩ ?_
              rintro vq N79 ⟨e1, hR⟩
              rw [e1]
              clear e1
              rw [hL75.1.ch] at hR
              simp only [Option.toList_some, Option.toList_none, List.nil_append]
              cases hres : pAll (chR m) true (((((b + kxt (chR m) b 33) + 1) + 1) + kxt (chR m) (((b + kxt (chR m) b 33) + 1) + 1) 61), v) with
              | error p =>
                rw [hres] at hR hQ
                obtain ⟨hFb, hIb, hX⟩ := hR
                have hX : PX N79 ((((b + kxt (chR m) b 33) + 1) + 1) + kxt (chR m) (((b + kxt (chR m) b 33) + 1) + 1) 61) v.length p := hX
                obtain ⟨x1, x2, x3, x4, x5, x6⟩ := hX
                have hFc := hL75.1.fp hFb
                have e16 : mi N79 86 16 = mi m 86 16 := hFc.cell (by decide) (by decide) (by omega) (by decide)
                have e91 : mi N79 91 6 = l := (hFb.cell (by decide) (by decide)).trans hL75.2.2.2.2
                refine j_aload_n rfl rfl ?_
                refine j_getR (q := 97) rfl f_X12_41 rfl ((hFc.st hS).lt (by decide)) ((hFc.st hS).k (by decide) (by decide)) ((hFc.st hS).r (by decide)) ?_
                refine j_iload_n rfl rfl ?_
                refine j_aload_n rfl rfl ?_
                refine j_getI rfl f_X12_216 rfl ((hFc.st hS).lt (by decide)) ((hFc.st hS).k (by decide) (by decide)) ?_
                have u235_11 := mi_rng N79 86 20
                refine j_iast (n := 84) rfl ((hFc.st hS).lt (by decide)) ((hFc.st hS).k (by decide) (by decide)) ((hFc.st hS).n (by decide) (by decide)) (by omega) (by omega) (by first | decide | omega) ?_
                have e91b : mi (si N79 97 (72 + l).toNat (mi N79 86 20)) 91 (6 : Int).toNat = l := (mi_si_ne _ _ (fun q => absurd q.1 (by decide))).trans e91
                refine j_aload_n rfl rfl ?_
                refine j_getR (q := 91) rfl f_X12_22 rfl ((hFc.st hS).lt (by decide)) ((hFc.st hS).k (by decide) (by decide)) ((hFc.st hS).r (by decide)) ?_
                refine j_bipush rfl (by decide) ?_
                refine j_dup2 rfl (Nat.ne_of_beq_eq_false rfl) (Nat.ne_of_beq_eq_false rfl) ?_
                refine j_iald (n := 7) rfl ((hFc.st hS).lt (by decide)) ((hFc.st hS).k (by decide) (by decide)) ((hFc.st hS).n (by decide) (by decide)) (by omega) (by omega) (by decide) ?_
                rw [show mi (si N79 97 (72 + l).toNat (mi N79 86 20)) 91 (6 : Int).toNat = mi N79 91 (6 : Int).toNat from by simp [mi_si, mi_fil, mi_cpr, mi_sl, mi_sr, ml_sl, ml_si, ml_sr, ml_fil, ml_cpr]]
                have u246_11 := hIb.a 91 (0) 12 (by decide) (6 : Int).toNat
                refine j_iconst rfl ?_
                refine j_iadd rfl ?_
                refine j_iast (n := 7) rfl ((hFc.st hS).lt (by decide)) ((hFc.st hS).k (by decide) (by decide)) ((hFc.st hS).n (by decide) (by decide)) (by omega) (by omega) (by first | decide | omega) ?_
                refine j_vret rfl rfl ?_ rfl (Nat.le_refl _)
                have hQ : (Except.error p : Except Int (PSt × LRec)) = R := hQ
                subst hQ
                refine ⟨rfl, ?_⟩
                rw [show mi (si N79 97 (72 + l).toNat (mi N79 86 20)) 91 (6 : Int).toNat = l from (mi_si_ne _ _ (fun q => absurd q.1 (by decide))).trans e91]
                exact PQ.err hFc hIb hl0 hl1 x1 x2 (by omega)
              | ok z =>
                rw [hres] at hR hQ
                obtain ⟨hFb, hIb, hPb⟩ := hR
                have hPb : PS N79 z.1 0 z.2 := hPb
                have hLz := hL75.fp hFb hIb hPb
                obtain ⟨g1, g2, w2, g3, g4, g5, -⟩ := (hg ((((b + kxt (chR m) b 33) + 1) + 1) + kxt (chR m) (((b + kxt (chR m) b 33) + 1) + 1) 61) v (by omega) (by omega)).1 z hres
                have g7 : (z.2.length : Int) ≤ v.length + (z.1 - ((((b + kxt (chR m) b 33) + 1) + 1) + kxt (chR m) (((b + kxt (chR m) b 33) + 1) + 1) 61)) := by rw [g3, List.length_append]; omega
                have e91 := hLz.2.2.2.2
                refine j_aload_n rfl rfl ?_
                refine j_getR (q := 97) rfl f_X12_41 rfl ((hLz.1.st hS).lt (by decide)) ((hLz.1.st hS).k (by decide) (by decide)) ((hLz.1.st hS).r (by decide)) ?_
                refine j_iload_n rfl rfl ?_
                refine j_aload_n rfl rfl ?_
                refine j_getI rfl f_X12_216 rfl ((hLz.1.st hS).lt (by decide)) ((hLz.1.st hS).k (by decide) (by decide)) ?_
                have u235_12 := mi_rng N79 86 20
                refine j_iast (n := 84) rfl ((hLz.1.st hS).lt (by decide)) ((hLz.1.st hS).k (by decide) (by decide)) ((hLz.1.st hS).n (by decide) (by decide)) (by omega) (by omega) (by first | decide | omega) ?_
                rw [hLz.2.2.1.2.2.2.1]
                have e91b : mi (si N79 97 (72 + l).toNat (z.2.length : Int)) 91 (6 : Int).toNat = l := (mi_si_ne _ _ (fun q => absurd q.1 (by decide))).trans e91
                refine j_aload_n rfl rfl ?_
                refine j_getR (q := 91) rfl f_X12_22 rfl ((hLz.1.st hS).lt (by decide)) ((hLz.1.st hS).k (by decide) (by decide)) ((hLz.1.st hS).r (by decide)) ?_
                refine j_bipush rfl (by decide) ?_
                refine j_dup2 rfl (Nat.ne_of_beq_eq_false rfl) (Nat.ne_of_beq_eq_false rfl) ?_
                refine j_iald (n := 7) rfl ((hLz.1.st hS).lt (by decide)) ((hLz.1.st hS).k (by decide) (by decide)) ((hLz.1.st hS).n (by decide) (by decide)) (by omega) (by omega) (by decide) ?_
                rw [show mi (si N79 97 (72 + l).toNat (z.2.length : Int)) 91 (6 : Int).toNat = mi N79 91 (6 : Int).toNat from by simp [mi_si, mi_fil, mi_cpr, mi_sl, mi_sr, ml_sl, ml_si, ml_sr, ml_fil, ml_cpr]]
                have u246_12 := hLz.2.1.a 91 (0) 12 (by decide) (6 : Int).toNat
                refine j_iconst rfl ?_
                refine j_iadd rfl ?_
                refine j_iast (n := 7) rfl ((hLz.1.st hS).lt (by decide)) ((hLz.1.st hS).k (by decide) (by decide)) ((hLz.1.st hS).n (by decide) (by decide)) (by omega) (by omega) (by first | decide | omega) ?_
                refine j_vret rfl rfl ?_ rfl (Nat.le_refl _)
                have hQ : (Except.ok (z, _) : Except Int (PSt × LRec)) = R := hQ
                subst hQ
                refine ⟨rfl, ?_⟩
                rw [e91b]
                exact PQ.fin hLz hl0 hl1 (by omega)
            · skip
              refine j_aload_n rfl rfl ?_
              refine j_callV (ci := 12) rfl okX12_wrong c_X12_222 (ct_X12_wrong (hL75.1.st hS) hL75.2.1) rfl rfl ((hL75.1.st hS).lt (by decide)) ((hL75.1.st hS).k (by decide) (by decide)) (by decide) rfl (Nat.le_of_ble_eq_true rfl) (RB.call hRB (by omega) (by decide)) ⟨Nat.le_refl _, Nat.le_refl _⟩ ?_
              rintro vq mq ⟨e1, e2⟩
              rw [if_neg (by rw [hL75.2.2.1.2.1]; decide), hL75.2.2.1.1] at e2
              rw [e1, e2]
              clear e1 e2
              simp only [Option.toList_some, Option.toList_none, List.cons_append, List.nil_append]
              have hB := hL75.bad (by omega) (by omega)
              refine j_vret rfl rfl ?_ rfl (Nat.le_refl _)
              exact ⟨rfl, by rw [if_neg (by omega)] at hQ; rw [← hQ]; exact ⟨hB.1, hB.2.1, hB.2.2⟩⟩
        · skip
          refine j_aload_n rfl rfl ?_
          refine j_callV (ci := 12) rfl okX12_wrong c_X12_222 (ct_X12_wrong (hL57.1.st hS) hL57.2.1) rfl rfl ((hL57.1.st hS).lt (by decide)) ((hL57.1.st hS).k (by decide) (by decide)) (by decide) rfl (Nat.le_of_ble_eq_true rfl) (RB.call hRB (by omega) (by decide)) ⟨Nat.le_refl _, Nat.le_refl _⟩ ?_
          rintro vq mq ⟨e1, e2⟩
          rw [if_neg (by rw [hL57.2.2.1.2.1]; decide), hL57.2.2.1.1] at e2
          rw [e1, e2]
          clear e1 e2
          simp only [Option.toList_some, Option.toList_none, List.cons_append, List.nil_append]
          have hB := hL57.bad (by omega) (by omega)
          refine j_vret rfl rfl ?_ rfl (Nat.le_refl _)
          exact ⟨rfl, by rw [← hQ]; unfold pRest pTgt; first | (rw [if_neg (by omega), if_neg (by omega)]; exact ⟨hB.1, hB.2.1, hB.2.2⟩) | (rw [if_pos (by omega), if_neg (by omega)]; exact ⟨hB.1, hB.2.1, hB.2.2⟩) | (rw [if_neg (by omega), if_pos (by omega), if_neg (by omega)]; exact ⟨hB.1, hB.2.1, hB.2.2⟩)⟩
      · skip
        refine j_bipush rfl (by decide) ?_
        refine j_goto (tgt := 164) rfl (by decide) ?_
        refine j_callS (As := [_, _, _]) rfl okX12_in c_X12_194 (ct_X12_in (by omega) (by omega) (by omega) (by omega) (by omega) (by omega)) rfl rfl (Nat.le_of_ble_eq_true rfl) (RB.call hRB (by omega) (by decide)) ⟨Nat.le_refl _, Nat.le_refl _⟩ ?_
        rintro vq mq ⟨e1, e2⟩
        rw [e1, e2]
        clear e1 e2
        simp only [Option.toList_some, Option.toList_none, List.cons_append, List.nil_append]
        refine j_bif_ne (tgt := 175) rfl (by decide) (fun hb167_4 => ?_) (fun hb167_4 => ?_)
        · skip
          refine j_aload_n rfl rfl ?_
          refine j_getR (q := 94) rfl f_X12_32 rfl ((hL57.1.st hS).lt (by decide)) ((hL57.1.st hS).k (by decide) (by decide)) ((hL57.1.st hS).r (by decide)) ?_
          refine j_iload_n rfl rfl ?_
          refine j_aload_n rfl rfl ?_
          refine j_callV (ci := 12) rfl okX12_look c_X12_225 (ct_X12_look (hL57.1.st hS) hL57.2.1 (by rw [hL57.2.2.1.1]; omega) (by rw [hL57.2.2.1.1]; omega)) rfl rfl ((hL57.1.st hS).lt (by decide)) ((hL57.1.st hS).k (by decide) (by decide)) (by decide) rfl (Nat.le_of_ble_eq_true rfl) (RB.call hRB (by omega) (by decide)) ⟨Nat.le_refl _, Nat.le_refl _⟩ ?_
          rintro vq mq ⟨e1, e2⟩
          rw [hL57.1.ch, hL57.2.2.1.1] at e1
          rw [e1, e2]
          clear e1 e2
          simp only [Option.toList_some, Option.toList_none, List.cons_append, List.nil_append]
          have cr80 := chR_rng hI0 ((b + kxt (chR m) b 33) + 1)
          refine j_bipush rfl (by decide) ?_
          refine j_isub rfl ?_
          refine j_iload_n rfl rfl ?_
          refine j_bipush rfl (by decide) ?_
          refine j_icmp_ne (tgt := 198) rfl (by decide) (by omega) (by omega) (by omega) (by omega) (fun hb190_4 => ?_) (fun hb190_4 => ?_)
          · skip
            refine j_iconst rfl ?_
            refine j_iadd rfl ?_
            refine j_iast (n := 84) rfl ((hL57.1.st hS).lt (by decide)) ((hL57.1.st hS).k (by decide) (by decide)) ((hL57.1.st hS).n (by decide) (by decide)) (by omega) (by omega) (by first | decide | omega) ?_
            have hT : pTgt (chR m) (b + kxt (chR m) b 33) = .ok (((chR m ((b + kxt (chR m) b 33) + 1)) - 48) + 0) := by unfold pTgt; first | (rw [if_pos (by omega), if_pos (by omega)]; congr 1; omega) | (rw [if_neg (by omega), if_pos (by omega), if_pos (by omega)])
            unfold pRest at hQ
            rw [hT] at hQ
            dsimp only at hQ
            have hL82 := hL57.s94 (v := (((chR m ((b + kxt (chR m) b 33) + 1)) - 48) + 0)) (by omega)
            generalize si N56 94 (72 + l).toNat (((chR m ((b + kxt (chR m) b 33) + 1)) - 48) + 0) = N81 at hL82 ⊢
            refine j_aload_n rfl rfl ?_
            refine j_dup rfl (Nat.ne_of_beq_eq_false rfl) ?_
            refine j_getI rfl f_X12_210 rfl ((hL82.1.st hS).lt (by decide)) ((hL82.1.st hS).k (by decide) (by decide)) ?_
            have u203_7 := mi_rng N81 86 17
            refine j_iconst rfl ?_
            refine j_iadd rfl ?_
            refine j_putI rfl f_X12_210 rfl ((hL82.1.st hS).lt (by decide)) ((hL82.1.st hS).k (by decide) (by decide)) ?_
            rw [hL82.2.2.1.1]
            have hL84 := hL82.adv (d := (((b + kxt (chR m) b 33) + 1) + 1)) (by omega) (by omega)
            generalize si N81 86 17 (((b + kxt (chR m) b 33) + 1) + 1) = N83 at hL84 ⊢
            refine j_aload_n rfl rfl ?_
            refine j_bipush rfl (by decide) ?_
            refine j_callV (ci := 12) rfl okX12_isNext c_X12_261 (ct_X12_isNextU (hL84.1.st hS) hL84.2.1 hL84.2.2.1 (by omega) (by rw [show mi N83 86 16 = mi m 86 16 from hL84.1.cell (by decide) (by decide) (by omega) (by decide)]; omega) (by omega) (by decide)) rfl rfl ((hL84.1.st hS).lt (by decide)) ((hL84.1.st hS).k (by decide) (by decide)) (by decide) rfl (Nat.le_of_ble_eq_true rfl) (RB.call hRB (by omega) (by decide)) ⟨Nat.le_refl _, Nat.le_refl _⟩ ?_
            rintro vq N85 ⟨e1, qf, qi, qp⟩
            rw [hL84.1.ch] at e1 qp
            rw [e1]
            clear e1
            simp only [Option.toList_some, Option.toList_none, List.cons_append, List.nil_append]
            have hL86 := hL84.fp qf qi qp
            clear qf qi qp
            have kx87 := kxt_c (chR m) (((b + kxt (chR m) b 33) + 1) + 1) 61
            have kl88 := fun (z : chR m (((b + kxt (chR m) b 33) + 1) + 1) = 61) => lt_end (chR_end m) (a := (((b + kxt (chR m) b 33) + 1) + 1)) (by omega)
            have kb89 : ((((b + kxt (chR m) b 33) + 1) + 1) + kxt (chR m) (((b + kxt (chR m) b 33) + 1) + 1) 61) ≤ mi m 86 16 := by omega
            refine j_if_ne (tgt := 225) rfl (by decide) (by omega) (by omega) (fun hb217_7 => ?_) (fun hb217_7 => ?_)
            · skip
              rw [if_pos (by omega)] at hQ
              have hkp : ((((b + kxt (chR m) b 33) + 1) + 1) + kxt (chR m) (((b + kxt (chR m) b 33) + 1) + 1) 61) = (((b + kxt (chR m) b 33) + 1) + 1) + 1 := by omega
              rw [← hkp] at hQ
              refine j_aload_n rfl rfl ?_
              refine j_callV (ci := 12) rfl okX12_either c_X12_243 (ct_X12_eitherA G N85 ((((b + kxt (chR m) b 33) + 1) + 1) + kxt (chR m) (((b + kxt (chR m) b 33) + 1) + 1) 61) v (hL86.1.st hS) hL86.2.1 hL86.2.2.1 (by omega) (by rw [show mi N85 86 16 = mi m 86 16 from hL86.1.cell (by decide) (by decide) (by omega) (by decide)]; omega) (by omega)) rfl rfl ((hL86.1.st hS).lt (by decide)) ((hL86.1.st hS).k (by decide) (by decide)) (by decide) rfl (Nat.le_of_ble_eq_true rfl) (RB.call hRB (by omega) (by decide)) ⟨Nat.le_refl _, Nat.le_refl _⟩ ?_
              rintro vq N90 ⟨e1, hR⟩
              rw [e1]
              clear e1
              rw [hL86.1.ch] at hR
              simp only [Option.toList_some, Option.toList_none, List.nil_append]
              cases hres : pAll (chR m) true (((((b + kxt (chR m) b 33) + 1) + 1) + kxt (chR m) (((b + kxt (chR m) b 33) + 1) + 1) 61), v) with
              | error p =>
                rw [hres] at hR hQ
                obtain ⟨hFb, hIb, hX⟩ := hR
                have hX : PX N90 ((((b + kxt (chR m) b 33) + 1) + 1) + kxt (chR m) (((b + kxt (chR m) b 33) + 1) + 1) 61) v.length p := hX
                obtain ⟨x1, x2, x3, x4, x5, x6⟩ := hX
                have hFc := hL86.1.fp hFb
                have e16 : mi N90 86 16 = mi m 86 16 := hFc.cell (by decide) (by decide) (by omega) (by decide)
                have e91 : mi N90 91 6 = l := (hFb.cell (by decide) (by decide)).trans hL86.2.2.2.2
                refine j_aload_n rfl rfl ?_
                refine j_getR (q := 97) rfl f_X12_41 rfl ((hFc.st hS).lt (by decide)) ((hFc.st hS).k (by decide) (by decide)) ((hFc.st hS).r (by decide)) ?_
                refine j_iload_n rfl rfl ?_
                refine j_aload_n rfl rfl ?_
                refine j_getI rfl f_X12_216 rfl ((hFc.st hS).lt (by decide)) ((hFc.st hS).k (by decide) (by decide)) ?_
                have u235_13 := mi_rng N90 86 20
                refine j_iast (n := 84) rfl ((hFc.st hS).lt (by decide)) ((hFc.st hS).k (by decide) (by decide)) ((hFc.st hS).n (by decide) (by decide)) (by omega) (by omega) (by first | decide | omega) ?_
                have e91b : mi (si N90 97 (72 + l).toNat (mi N90 86 20)) 91 (6 : Int).toNat = l := (mi_si_ne _ _ (fun q => absurd q.1 (by decide))).trans e91
                refine j_aload_n rfl rfl ?_
                refine j_getR (q := 91) rfl f_X12_22 rfl ((hFc.st hS).lt (by decide)) ((hFc.st hS).k (by decide) (by decide)) ((hFc.st hS).r (by decide)) ?_
                refine j_bipush rfl (by decide) ?_
                refine j_dup2 rfl (Nat.ne_of_beq_eq_false rfl) (Nat.ne_of_beq_eq_false rfl) ?_
                refine j_iald (n := 7) rfl ((hFc.st hS).lt (by decide)) ((hFc.st hS).k (by decide) (by decide)) ((hFc.st hS).n (by decide) (by decide)) (by omega) (by omega) (by decide) ?_
                rw [show mi (si N90 97 (72 + l).toNat (mi N90 86 20)) 91 (6 : Int).toNat = mi N90 91 (6 : Int).toNat from by simp [mi_si, mi_fil, mi_cpr, mi_sl, mi_sr, ml_sl, ml_si, ml_sr, ml_fil, ml_cpr]]
                have u246_13 := hIb.a 91 (0) 12 (by decide) (6 : Int).toNat
                refine j_iconst rfl ?_
                refine j_iadd rfl ?_
                refine j_iast (n := 7) rfl ((hFc.st hS).lt (by decide)) ((hFc.st hS).k (by decide) (by decide)) ((hFc.st hS).n (by decide) (by decide)) (by omega) (by omega) (by first | decide | omega) ?_
                refine j_vret rfl rfl ?_ rfl (Nat.le_refl _)
                have hQ : (Except.error p : Except Int (PSt × LRec)) = R := hQ
                subst hQ
                refine ⟨rfl, ?_⟩
                rw [show mi (si N90 97 (72 + l).toNat (mi N90 86 20)) 91 (6 : Int).toNat = l from (mi_si_ne _ _ (fun q => absurd q.1 (by decide))).trans e91]
                exact PQ.err hFc hIb hl0 hl1 x1 x2 (by omega)
              | ok z =>
                rw [hres] at hR hQ
                obtain ⟨hFb, hIb, hPb⟩ := hR
                have hPb : PS N90 z.1 0 z.2 := hPb
                have hLz := hL86.fp hFb hIb hPb
                obtain ⟨g1, g2, w2, g3, g4, g5, -⟩ := (hg ((((b + kxt (chR m) b 33) + 1) + 1) + kxt (chR m) (((b + kxt (chR m) b 33) + 1) + 1) 61) v (by omega) (by omega)).1 z hres
                have g7 : (z.2.length : Int) ≤ v.length + (z.1 - ((((b + kxt (chR m) b 33) + 1) + 1) + kxt (chR m) (((b + kxt (chR m) b 33) + 1) + 1) 61)) := by rw [g3, List.length_append]; omega
                have e91 := hLz.2.2.2.2
                refine j_aload_n rfl rfl ?_
                refine j_getR (q := 97) rfl f_X12_41 rfl ((hLz.1.st hS).lt (by decide)) ((hLz.1.st hS).k (by decide) (by decide)) ((hLz.1.st hS).r (by decide)) ?_
                refine j_iload_n rfl rfl ?_
                refine j_aload_n rfl rfl ?_
                refine j_getI rfl f_X12_216 rfl ((hLz.1.st hS).lt (by decide)) ((hLz.1.st hS).k (by decide) (by decide)) ?_
                have u235_14 := mi_rng N90 86 20
                refine j_iast (n := 84) rfl ((hLz.1.st hS).lt (by decide)) ((hLz.1.st hS).k (by decide) (by decide)) ((hLz.1.st hS).n (by decide) (by decide)) (by omega) (by omega) (by first | decide | omega) ?_
                rw [hLz.2.2.1.2.2.2.1]
                have e91b : mi (si N90 97 (72 + l).toNat (z.2.length : Int)) 91 (6 : Int).toNat = l := (mi_si_ne _ _ (fun q => absurd q.1 (by decide))).trans e91
                refine j_aload_n rfl rfl ?_
                refine j_getR (q := 91) rfl f_X12_22 rfl ((hLz.1.st hS).lt (by decide)) ((hLz.1.st hS).k (by decide) (by decide)) ((hLz.1.st hS).r (by decide)) ?_
                refine j_bipush rfl (by decide) ?_
                refine j_dup2 rfl (Nat.ne_of_beq_eq_false rfl) (Nat.ne_of_beq_eq_false rfl) ?_
                refine j_iald (n := 7) rfl ((hLz.1.st hS).lt (by decide)) ((hLz.1.st hS).k (by decide) (by decide)) ((hLz.1.st hS).n (by decide) (by decide)) (by omega) (by omega) (by decide) ?_
                rw [show mi (si N90 97 (72 + l).toNat (z.2.length : Int)) 91 (6 : Int).toNat = mi N90 91 (6 : Int).toNat from by simp [mi_si, mi_fil, mi_cpr, mi_sl, mi_sr, ml_sl, ml_si, ml_sr, ml_fil, ml_cpr]]
                have u246_14 := hLz.2.1.a 91 (0) 12 (by decide) (6 : Int).toNat
                refine j_iconst rfl ?_
                refine j_iadd rfl ?_
                refine j_iast (n := 7) rfl ((hLz.1.st hS).lt (by decide)) ((hLz.1.st hS).k (by decide) (by decide)) ((hLz.1.st hS).n (by decide) (by decide)) (by omega) (by omega) (by first | decide | omega) ?_
                refine j_vret rfl rfl ?_ rfl (Nat.le_refl _)
                have hQ : (Except.ok (z, _) : Except Int (PSt × LRec)) = R := hQ
                subst hQ
                refine ⟨rfl, ?_⟩
                rw [e91b]
                exact PQ.fin hLz hl0 hl1 (by omega)
            · skip
              refine j_aload_n rfl rfl ?_
              refine j_callV (ci := 12) rfl okX12_wrong c_X12_222 (ct_X12_wrong (hL86.1.st hS) hL86.2.1) rfl rfl ((hL86.1.st hS).lt (by decide)) ((hL86.1.st hS).k (by decide) (by decide)) (by decide) rfl (Nat.le_of_ble_eq_true rfl) (RB.call hRB (by omega) (by decide)) ⟨Nat.le_refl _, Nat.le_refl _⟩ ?_
              rintro vq mq ⟨e1, e2⟩
              rw [if_neg (by rw [hL86.2.2.1.2.1]; decide), hL86.2.2.1.1] at e2
              rw [e1, e2]
              clear e1 e2
              simp only [Option.toList_some, Option.toList_none, List.cons_append, List.nil_append]
              have hB := hL86.bad (by omega) (by omega)
              refine j_vret rfl rfl ?_ rfl (Nat.le_refl _)
              exact ⟨rfl, by rw [if_neg (by omega)] at hQ; rw [← hQ]; exact ⟨hB.1, hB.2.1, hB.2.2⟩⟩
          · skip
            refine j_bipush rfl (by decide) ?_
            refine j_goto (tgt := 199) rfl (by decide) ?_
            refine j_iadd rfl ?_
            refine j_iast (n := 84) rfl ((hL57.1.st hS).lt (by decide)) ((hL57.1.st hS).k (by decide) (by decide)) ((hL57.1.st hS).n (by decide) (by decide)) (by omega) (by omega) (by first | decide | omega) ?_
            have hT : pTgt (chR m) (b + kxt (chR m) b 33) = .ok (((chR m ((b + kxt (chR m) b 33) + 1)) - 48) + 10) := by unfold pTgt; first | (rw [if_pos (by omega), if_pos (by omega)]; congr 1; omega) | (rw [if_neg (by omega), if_pos (by omega), if_pos (by omega)])
            unfold pRest at hQ
            rw [hT] at hQ
            dsimp only at hQ
            have hL92 := hL57.s94 (v := (((chR m ((b + kxt (chR m) b 33) + 1)) - 48) + 10)) (by omega)
            generalize si N56 94 (72 + l).toNat (((chR m ((b + kxt (chR m) b 33) + 1)) - 48) + 10) = N91 at hL92 ⊢
            refine j_aload_n rfl rfl ?_
            refine j_dup rfl (Nat.ne_of_beq_eq_false rfl) ?_
            refine j_getI rfl f_X12_210 rfl ((hL92.1.st hS).lt (by decide)) ((hL92.1.st hS).k (by decide) (by decide)) ?_
            have u203_8 := mi_rng N91 86 17
            refine j_iconst rfl ?_
            refine j_iadd rfl ?_
            refine j_putI rfl f_X12_210 rfl ((hL92.1.st hS).lt (by decide)) ((hL92.1.st hS).k (by decide) (by decide)) ?_
            rw [hL92.2.2.1.1]
            have hL94 := hL92.adv (d := (((b + kxt (chR m) b 33) + 1) + 1)) (by omega) (by omega)
            generalize si N91 86 17 (((b + kxt (chR m) b 33) + 1) + 1) = N93 at hL94 ⊢
            refine j_aload_n rfl rfl ?_
            refine j_bipush rfl (by decide) ?_
            refine j_callV (ci := 12) rfl okX12_isNext c_X12_261 (ct_X12_isNextU (hL94.1.st hS) hL94.2.1 hL94.2.2.1 (by omega) (by rw [show mi N93 86 16 = mi m 86 16 from hL94.1.cell (by decide) (by decide) (by omega) (by decide)]; omega) (by omega) (by decide)) rfl rfl ((hL94.1.st hS).lt (by decide)) ((hL94.1.st hS).k (by decide) (by decide)) (by decide) rfl (Nat.le_of_ble_eq_true rfl) (RB.call hRB (by omega) (by decide)) ⟨Nat.le_refl _, Nat.le_refl _⟩ ?_
            rintro vq N95 ⟨e1, qf, qi, qp⟩
            rw [hL94.1.ch] at e1 qp
            rw [e1]
            clear e1
            simp only [Option.toList_some, Option.toList_none, List.cons_append, List.nil_append]
            have hL96 := hL94.fp qf qi qp
            clear qf qi qp
            have kx97 := kxt_c (chR m) (((b + kxt (chR m) b 33) + 1) + 1) 61
            have kl98 := fun (z : chR m (((b + kxt (chR m) b 33) + 1) + 1) = 61) => lt_end (chR_end m) (a := (((b + kxt (chR m) b 33) + 1) + 1)) (by omega)
            have kb99 : ((((b + kxt (chR m) b 33) + 1) + 1) + kxt (chR m) (((b + kxt (chR m) b 33) + 1) + 1) 61) ≤ mi m 86 16 := by omega
            refine j_if_ne (tgt := 225) rfl (by decide) (by omega) (by omega) (fun hb217_8 => ?_) (fun hb217_8 => ?_)
            · skip
              rw [if_pos (by omega)] at hQ
              have hkp : ((((b + kxt (chR m) b 33) + 1) + 1) + kxt (chR m) (((b + kxt (chR m) b 33) + 1) + 1) 61) = (((b + kxt (chR m) b 33) + 1) + 1) + 1 := by omega
              rw [← hkp] at hQ
              refine j_aload_n rfl rfl ?_
              refine j_callV (ci := 12) rfl okX12_either c_X12_243 (ct_X12_eitherA G N95 ((((b + kxt (chR m) b 33) + 1) + 1) + kxt (chR m) (((b + kxt (chR m) b 33) + 1) + 1) 61) v (hL96.1.st hS) hL96.2.1 hL96.2.2.1 (by omega) (by rw [show mi N95 86 16 = mi m 86 16 from hL96.1.cell (by decide) (by decide) (by omega) (by decide)]; omega) (by omega)) rfl rfl ((hL96.1.st hS).lt (by decide)) ((hL96.1.st hS).k (by decide) (by decide)) (by decide) rfl (Nat.le_of_ble_eq_true rfl) (RB.call hRB (by omega) (by decide)) ⟨Nat.le_refl _, Nat.le_refl _⟩ ?_
              rintro vq N100 ⟨e1, hR⟩
              rw [e1]
              clear e1
              rw [hL96.1.ch] at hR
              simp only [Option.toList_some, Option.toList_none, List.nil_append]
              cases hres : pAll (chR m) true (((((b + kxt (chR m) b 33) + 1) + 1) + kxt (chR m) (((b + kxt (chR m) b 33) + 1) + 1) 61), v) with
              | error p =>
                rw [hres] at hR hQ
                obtain ⟨hFb, hIb, hX⟩ := hR
                have hX : PX N100 ((((b + kxt (chR m) b 33) + 1) + 1) + kxt (chR m) (((b + kxt (chR m) b 33) + 1) + 1) 61) v.length p := hX
                obtain ⟨x1, x2, x3, x4, x5, x6⟩ := hX
                have hFc := hL96.1.fp hFb
                have e16 : mi N100 86 16 = mi m 86 16 := hFc.cell (by decide) (by decide) (by omega) (by decide)
                have e91 : mi N100 91 6 = l := (hFb.cell (by decide) (by decide)).trans hL96.2.2.2.2
                refine j_aload_n rfl rfl ?_
                refine j_getR (q := 97) rfl f_X12_41 rfl ((hFc.st hS).lt (by decide)) ((hFc.st hS).k (by decide) (by decide)) ((hFc.st hS).r (by decide)) ?_
                refine j_iload_n rfl rfl ?_
                refine j_aload_n rfl rfl ?_
                refine j_getI rfl f_X12_216 rfl ((hFc.st hS).lt (by decide)) ((hFc.st hS).k (by decide) (by decide)) ?_
                have u235_15 := mi_rng N100 86 20
                refine j_iast (n := 84) rfl ((hFc.st hS).lt (by decide)) ((hFc.st hS).k (by decide) (by decide)) ((hFc.st hS).n (by decide) (by decide)) (by omega) (by omega) (by first | decide | omega) ?_
                have e91b : mi (si N100 97 (72 + l).toNat (mi N100 86 20)) 91 (6 : Int).toNat = l := (mi_si_ne _ _ (fun q => absurd q.1 (by decide))).trans e91
                refine j_aload_n rfl rfl ?_
                refine j_getR (q := 91) rfl f_X12_22 rfl ((hFc.st hS).lt (by decide)) ((hFc.st hS).k (by decide) (by decide)) ((hFc.st hS).r (by decide)) ?_
                refine j_bipush rfl (by decide) ?_
                refine j_dup2 rfl (Nat.ne_of_beq_eq_false rfl) (Nat.ne_of_beq_eq_false rfl) ?_
                refine j_iald (n := 7) rfl ((hFc.st hS).lt (by decide)) ((hFc.st hS).k (by decide) (by decide)) ((hFc.st hS).n (by decide) (by decide)) (by omega) (by omega) (by decide) ?_
                rw [show mi (si N100 97 (72 + l).toNat (mi N100 86 20)) 91 (6 : Int).toNat = mi N100 91 (6 : Int).toNat from by simp [mi_si, mi_fil, mi_cpr, mi_sl, mi_sr, ml_sl, ml_si, ml_sr, ml_fil, ml_cpr]]
                have u246_15 := hIb.a 91 (0) 12 (by decide) (6 : Int).toNat
                refine j_iconst rfl ?_
                refine j_iadd rfl ?_
                refine j_iast (n := 7) rfl ((hFc.st hS).lt (by decide)) ((hFc.st hS).k (by decide) (by decide)) ((hFc.st hS).n (by decide) (by decide)) (by omega) (by omega) (by first | decide | omega) ?_
                refine j_vret rfl rfl ?_ rfl (Nat.le_refl _)
                have hQ : (Except.error p : Except Int (PSt × LRec)) = R := hQ
                subst hQ
                refine ⟨rfl, ?_⟩
                rw [show mi (si N100 97 (72 + l).toNat (mi N100 86 20)) 91 (6 : Int).toNat = l from (mi_si_ne _ _ (fun q => absurd q.1 (by decide))).trans e91]
                exact PQ.err hFc hIb hl0 hl1 x1 x2 (by omega)
              | ok z =>
                rw [hres] at hR hQ
                obtain ⟨hFb, hIb, hPb⟩ := hR
                have hPb : PS N100 z.1 0 z.2 := hPb
                have hLz := hL96.fp hFb hIb hPb
                obtain ⟨g1, g2, w2, g3, g4, g5, -⟩ := (hg ((((b + kxt (chR m) b 33) + 1) + 1) + kxt (chR m) (((b + kxt (chR m) b 33) + 1) + 1) 61) v (by omega) (by omega)).1 z hres
                have g7 : (z.2.length : Int) ≤ v.length + (z.1 - ((((b + kxt (chR m) b 33) + 1) + 1) + kxt (chR m) (((b + kxt (chR m) b 33) + 1) + 1) 61)) := by rw [g3, List.length_append]; omega
                have e91 := hLz.2.2.2.2
                refine j_aload_n rfl rfl ?_
                refine j_getR (q := 97) rfl f_X12_41 rfl ((hLz.1.st hS).lt (by decide)) ((hLz.1.st hS).k (by decide) (by decide)) ((hLz.1.st hS).r (by decide)) ?_
                refine j_iload_n rfl rfl ?_
                refine j_aload_n rfl rfl ?_
                refine j_getI rfl f_X12_216 rfl ((hLz.1.st hS).lt (by decide)) ((hLz.1.st hS).k (by decide) (by decide)) ?_
                have u235_16 := mi_rng N100 86 20
                refine j_iast (n := 84) rfl ((hLz.1.st hS).lt (by decide)) ((hLz.1.st hS).k (by decide) (by decide)) ((hLz.1.st hS).n (by decide) (by decide)) (by omega) (by omega) (by first | decide | omega) ?_
                rw [hLz.2.2.1.2.2.2.1]
                have e91b : mi (si N100 97 (72 + l).toNat (z.2.length : Int)) 91 (6 : Int).toNat = l := (mi_si_ne _ _ (fun q => absurd q.1 (by decide))).trans e91
                refine j_aload_n rfl rfl ?_
                refine j_getR (q := 91) rfl f_X12_22 rfl ((hLz.1.st hS).lt (by decide)) ((hLz.1.st hS).k (by decide) (by decide)) ((hLz.1.st hS).r (by decide)) ?_
                refine j_bipush rfl (by decide) ?_
                refine j_dup2 rfl (Nat.ne_of_beq_eq_false rfl) (Nat.ne_of_beq_eq_false rfl) ?_
                refine j_iald (n := 7) rfl ((hLz.1.st hS).lt (by decide)) ((hLz.1.st hS).k (by decide) (by decide)) ((hLz.1.st hS).n (by decide) (by decide)) (by omega) (by omega) (by decide) ?_
                rw [show mi (si N100 97 (72 + l).toNat (z.2.length : Int)) 91 (6 : Int).toNat = mi N100 91 (6 : Int).toNat from by simp [mi_si, mi_fil, mi_cpr, mi_sl, mi_sr, ml_sl, ml_si, ml_sr, ml_fil, ml_cpr]]
                have u246_16 := hLz.2.1.a 91 (0) 12 (by decide) (6 : Int).toNat
                refine j_iconst rfl ?_
                refine j_iadd rfl ?_
                refine j_iast (n := 7) rfl ((hLz.1.st hS).lt (by decide)) ((hLz.1.st hS).k (by decide) (by decide)) ((hLz.1.st hS).n (by decide) (by decide)) (by omega) (by omega) (by first | decide | omega) ?_
                refine j_vret rfl rfl ?_ rfl (Nat.le_refl _)
                have hQ : (Except.ok (z, _) : Except Int (PSt × LRec)) = R := hQ
                subst hQ
                refine ⟨rfl, ?_⟩
                rw [e91b]
                exact PQ.fin hLz hl0 hl1 (by omega)
            · skip
              refine j_aload_n rfl rfl ?_
              refine j_callV (ci := 12) rfl okX12_wrong c_X12_222 (ct_X12_wrong (hL96.1.st hS) hL96.2.1) rfl rfl ((hL96.1.st hS).lt (by decide)) ((hL96.1.st hS).k (by decide) (by decide)) (by decide) rfl (Nat.le_of_ble_eq_true rfl) (RB.call hRB (by omega) (by decide)) ⟨Nat.le_refl _, Nat.le_refl _⟩ ?_
              rintro vq mq ⟨e1, e2⟩
              rw [if_neg (by rw [hL96.2.2.1.2.1]; decide), hL96.2.2.1.1] at e2
              rw [e1, e2]
              clear e1 e2
              simp only [Option.toList_some, Option.toList_none, List.cons_append, List.nil_append]
              have hB := hL96.bad (by omega) (by omega)
              refine j_vret rfl rfl ?_ rfl (Nat.le_refl _)
              exact ⟨rfl, by rw [if_neg (by omega)] at hQ; rw [← hQ]; exact ⟨hB.1, hB.2.1, hB.2.2⟩⟩
        · skip
          refine j_aload_n rfl rfl ?_
          refine j_callV (ci := 12) rfl okX12_wrong c_X12_222 (ct_X12_wrong (hL57.1.st hS) hL57.2.1) rfl rfl ((hL57.1.st hS).lt (by decide)) ((hL57.1.st hS).k (by decide) (by decide)) (by decide) rfl (Nat.le_of_ble_eq_true rfl) (RB.call hRB (by omega) (by decide)) ⟨Nat.le_refl _, Nat.le_refl _⟩ ?_
          rintro vq mq ⟨e1, e2⟩
          rw [if_neg (by rw [hL57.2.2.1.2.1]; decide), hL57.2.2.1.1] at e2
          rw [e1, e2]
          clear e1 e2
          simp only [Option.toList_some, Option.toList_none, List.cons_append, List.nil_append]
          have hB := hL57.bad (by omega) (by omega)
          refine j_vret rfl rfl ?_ rfl (Nat.le_refl _)
          exact ⟨rfl, by rw [← hQ]; unfold pRest pTgt; first | (rw [if_neg (by omega), if_neg (by omega)]; exact ⟨hB.1, hB.2.1, hB.2.2⟩) | (rw [if_pos (by omega), if_neg (by omega)]; exact ⟨hB.1, hB.2.1, hB.2.2⟩) | (rw [if_neg (by omega), if_pos (by omega), if_neg (by omega)]; exact ⟨hB.1, hB.2.1, hB.2.2⟩)⟩
    · skip
      refine j_aload_n rfl rfl ?_
      refine j_callV (ci := 12) rfl okX12_wrong c_X12_222 (ct_X12_wrong (hL9.1.st hS) hL9.2.1) rfl rfl ((hL9.1.st hS).lt (by decide)) ((hL9.1.st hS).k (by decide) (by decide)) (by decide) rfl (Nat.le_of_ble_eq_true rfl) (RB.call hRB (by omega) (by decide)) ⟨Nat.le_refl _, Nat.le_refl _⟩ ?_
      rintro vq mq ⟨e1, e2⟩
      rw [if_neg (by rw [hL9.2.2.1.2.1]; decide), hL9.2.2.1.1] at e2
      rw [e1, e2]
      clear e1 e2
      simp only [Option.toList_some, Option.toList_none, List.cons_append, List.nil_append]
      have hB := hL9.bad (by omega) (by omega)
      refine j_vret rfl rfl ?_ rfl (Nat.le_refl _)
      exact ⟨rfl, by rw [← hQ]; unfold pRest pTgt; first | (rw [if_neg (by omega), if_neg (by omega)]; exact ⟨hB.1, hB.2.1, hB.2.2⟩) | (rw [if_pos (by omega), if_neg (by omega)]; exact ⟨hB.1, hB.2.1, hB.2.2⟩) | (rw [if_neg (by omega), if_pos (by omega), if_neg (by omega)]; exact ⟨hB.1, hB.2.1, hB.2.2⟩)⟩


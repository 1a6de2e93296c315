/-- in the midst of line l: so far read up to a, with the words w; what its rows hold -/
def LnS (l : Int) (m N : AM) (a : Int) (w : List (Nat × Int)) (c b t x g : Int) : Prop := FL l m N ∧ IM N ∧ PS N a 0 w ∧ Rows N l c b t x g ∧ mi N 91 6 = l
theorem LnS.fp {l : Int} {m N M : AM} {a : Int} {w : List (Nat × Int)} {c b t x g : Int} (h : LnS l m N a w c b t x g) (f : FP N M) (hI : IM M) {a2 : Int} {w2 : List (Nat × Int)} (hP : PS M a2 0 w2) : LnS l m M a2 w2 c b t x g :=
  ⟨h.1.fp f, hI, hP, h.2.2.2.1.fp f, (f.cell (by decide) (by decide)).trans h.2.2.2.2⟩
theorem LnS.adv {l : Int} {m N : AM} {a : Int} {w : List (Nat × Int)} {c b t x g : Int} (h : LnS l m N a w c b t x g) {d : Int} (h1 : -2147483648 ≤ d) (h2 : d < 2147483648) : LnS l m (si N 86 17 d) d w c b t x g :=
  h.fp ((FP.rf N).one (o := 86) (k := 17) (Or.inr (by omega)) d) (h.2.1.read (by omega) d) (h.2.2.1.adv h1 h2)
theorem LnS.s92 {l : Int} {m N : AM} {a : Int} {w : List (Nat × Int)} {c b t x g : Int} (h : LnS l m N a w c b t x g) {v : Int} (hv : 0 ≤ v ∧ v ≤ 1) : LnS l m (si N 92 (72 + l).toNat v) a w v b t x g :=
  ⟨h.1.row (Or.inl ⟨by omega, rfl⟩) v, h.2.1.line _ 0 1 (by simp) hv, h.2.2.1.row (by omega) _ _, h.2.2.2.1.s92 (by omega) (by omega), (mi_si_ne _ _ (by omega)).trans h.2.2.2.2⟩
theorem LnS.s95 {l : Int} {m N : AM} {a : Int} {w : List (Nat × Int)} {c b t x g : Int} (h : LnS l m N a w c b t x g) {v : Int} (hv : 0 ≤ v ∧ v ≤ 160) : LnS l m (si N 95 (72 + l).toNat v) a w c v t x g :=
  ⟨h.1.row (Or.inl ⟨by omega, rfl⟩) v, h.2.1.line _ 0 160 (by simp) hv, h.2.2.1.row (by omega) _ _, h.2.2.2.1.s95 (by omega) (by omega), (mi_si_ne _ _ (by omega)).trans h.2.2.2.2⟩
theorem LnS.s96 {l : Int} {m N : AM} {a : Int} {w : List (Nat × Int)} {c b t x g : Int} (h : LnS l m N a w c b t x g) {v : Int} (hv : 0 ≤ v ∧ v ≤ 160) : LnS l m (si N 96 (72 + l).toNat v) a w c b v x g :=
  ⟨h.1.row (Or.inl ⟨by omega, rfl⟩) v, h.2.1.line _ 0 160 (by simp) hv, h.2.2.1.row (by omega) _ _, h.2.2.2.1.s96 (by omega) (by omega), (mi_si_ne _ _ (by omega)).trans h.2.2.2.2⟩
theorem LnS.s93 {l : Int} {m N : AM} {a : Int} {w : List (Nat × Int)} {c b t x g : Int} (h : LnS l m N a w c b t x g) {v : Int} (hv : 0 ≤ v ∧ v ≤ 1) : LnS l m (si N 93 (72 + l).toNat v) a w c b t v g :=
  ⟨h.1.row (Or.inl ⟨by omega, rfl⟩) v, h.2.1.line _ 0 1 (by simp) hv, h.2.2.1.row (by omega) _ _, h.2.2.2.1.s93 (by omega) (by omega), (mi_si_ne _ _ (by omega)).trans h.2.2.2.2⟩
theorem LnS.s94 {l : Int} {m N : AM} {a : Int} {w : List (Nat × Int)} {c b t x g : Int} (h : LnS l m N a w c b t x g) {v : Int} (hv : 0 ≤ v ∧ v ≤ 13) : LnS l m (si N 94 (72 + l).toNat v) a w c b t x v :=
  ⟨h.1.row (Or.inl ⟨by omega, rfl⟩) v, h.2.1.line _ 0 13 (by simp) hv, h.2.2.1.row (by omega) _ _, h.2.2.2.1.s94 (by omega) (by omega), (mi_si_ne _ _ (by omega)).trans h.2.2.2.2⟩
/-- a wrong byte ends a line -/
theorem LnS.bad {l : Int} {m N : AM} {a : Int} {w : List (Nat × Int)} {c b t x g : Int} (h : LnS l m N a w c b t x g) (h0 : 0 ≤ a) (h1 : a < 2147483648) : FL l m (si N 86 18 a) ∧ IM (si N 86 18 a) ∧ mi (si N 86 18 a) 86 18 = a ∧ 0 ≤ a :=
  ⟨h.1.fp ((FP.rf N).one (o := 86) (k := 18) (Or.inr (by omega)) a), h.2.1.read (by omega) a, mi_si_same _ _ _ (by omega) (by omega), h0⟩
/-- the end of a line whose last part was read, or wasn't -/
theorem PQ.fin {l : Int} {m N : AM} {a : Int} {w : List (Nat × Int)} {c b t x g : Int} (h : LnS l m N a w c b t x g) (hl0 : 0 ≤ l) (hl1 : l ≤ 11) {v : Int} (hv : 0 ≤ v ∧ v ≤ 170) : PQ l m (si (si N 97 (72 + l).toNat v) 91 6 (l + 1)) (.ok ((a, w), c, b, t, x, g, v)) :=
  ⟨(h.1.row (Or.inl ⟨by omega, rfl⟩) v).row (Or.inr ⟨rfl, rfl⟩) _, (h.2.1.line _ 0 170 (by simp) hv).line _ 0 12 (by simp) (by omega), (h.2.2.1.row (by omega) _ _).row (by omega) _ _, mi_si_same _ _ _ (by omega) (by omega), (h.2.2.2.1.other (Or.inl rfl) _ _).other (Or.inr rfl) _ _, (mi_si_ne _ _ (by omega)).trans (mi_si_same _ _ _ (by omega) (by omega))⟩
theorem PQ.err {l : Int} {m N : AM} (f : FL l m N) (hI : IM N) (hl0 : 0 ≤ l) (hl1 : l ≤ 11) {p : Int} (hp : mi N 86 18 = p) (hp0 : 0 ≤ p) {v : Int} (hv : 0 ≤ v ∧ v ≤ 170) : PQ l m (si (si N 97 (72 + l).toNat v) 91 6 (l + 1)) (.error p) :=
  ⟨(f.row (Or.inl ⟨by omega, rfl⟩) v).row (Or.inr ⟨rfl, rfl⟩) _, (hI.line _ 0 170 (by simp) hv).line _ 0 12 (by simp) (by omega), (mi_si_ne _ _ (by omega)).trans ((mi_si_ne _ _ (by omega)).trans hp), hp0⟩

set_option maxRecDepth 20000 in
set_option maxHeartbeats 8000000 in
theorem lp_readLine_91 {G : QW} {m N : AM} {l b cc bb t0 x0 g0 : Int} {v : List (Nat × Int)} {R : Except Int (PSt × LRec)} (hS : St m) (hI0 : IM m) (hl0 : 0 ≤ l) (hl1 : l ≤ 11) (hL : LnS l m N b v cc bb t0 x0 g0) (hb0 : 0 ≤ b) (hb1 : b ≤ mi m 86 16) (hlv : (v.length : Int) ≤ b) (hQ : pRest (chR m) true cc bb (b, v) = R) : qJ G mX12_readLine { frames := 44, cells := 0, slots := 0, locals := 60 * 44 } (qF G (fun r m' => r = none ∧ PQ l m m' R) 0 0) 91 [(0, vR 86), (1, vI (72 + l))] [] N 0 0 := by
  have htp := hI0.s 86 16 0 160 (by decide)
  have hRB := RBn 44
  have hg := pAll_good (chR_end m) true
  refine j_aload_n rfl rfl ?_
  refine j_getR (q := 96) rfl f_X12_38 rfl ((hL.1.st hS).lt (by decide)) ((hL.1.st hS).k (by decide) (by decide)) ((hL.1.st hS).r (by decide)) ?_
  refine j_iload_n rfl rfl ?_
  refine j_aload_n rfl rfl ?_
  refine j_getI rfl f_X12_216 rfl ((hL.1.st hS).lt (by decide)) ((hL.1.st hS).k (by decide) (by decide)) ?_
  have u97_1 := mi_rng N 86 20
  refine j_iast (n := 84) rfl ((hL.1.st hS).lt (by decide)) ((hL.1.st hS).k (by decide) (by decide)) ((hL.1.st hS).n (by decide) (by decide)) (by omega) (by omega) (by first | decide | omega) ?_
  rw [hL.2.2.1.2.2.2.1]
  have hL2 := hL.s96 (v := (v.length : Int)) (by omega)
  generalize si N 96 (72 + l).toNat (v.length : Int) = N1 at hL2 ⊢
  refine j_aload_n rfl rfl ?_
  refine j_getR (q := 93) rfl f_X12_29 rfl ((hL2.1.st hS).lt (by decide)) ((hL2.1.st hS).k (by decide) (by decide)) ((hL2.1.st hS).r (by decide)) ?_
  refine j_iload_n rfl rfl ?_
  refine j_aload_n rfl rfl ?_
  refine j_bipush rfl (by decide) ?_
  refine j_callV (ci := 12) rfl okX12_isNext c_X12_261 (ct_X12_isNextU (hL2.1.st hS) hL2.2.1 hL2.2.2.1 (by omega) (by rw [show mi N1 86 16 = mi m 86 16 from hL2.1.cell (by decide) (by decide) (by omega) (by decide)]; omega) (by omega) (by decide)) rfl rfl ((hL2.1.st hS).lt (by decide)) ((hL2.1.st hS).k (by decide) (by decide)) (by decide) rfl (Nat.le_of_ble_eq_true rfl) (RB.call hRB (by omega) (by decide)) ⟨Nat.le_refl _, Nat.le_refl _⟩ ?_
  rintro vq N3 ⟨e1, qf, qi, qp⟩
  rw [hL2.1.ch] at e1 qp
  rw [e1]
  clear e1
  simp only [Option.toList_some, Option.toList_none, List.cons_append, List.nil_append]
  have hL4 := hL2.fp qf qi qp
  clear qf qi qp
  have kx5 := kxt_c (chR m) b 33
  have kl6 := fun (z : chR m b = 33) => lt_end (chR_end m) (a := b) (by omega)
  have kb7 : (b + kxt (chR m) b 33) ≤ mi m 86 16 := by omega
  refine j_zast (n := 84) rfl ((hL4.1.st hS).lt (by decide)) ((hL4.1.st hS).k (by decide) (by decide)) ((hL4.1.st hS).n (by decide) (by decide)) (by omega) (by omega) (by first | decide | omega) (by omega) ?_
  have hL9 := hL4.s93 (v := (kxt (chR m) b 33)) (by omega)
  generalize si N3 93 (72 + l).toNat (kxt (chR m) b 33) = N8 at hL9 ⊢
  refine j_aload_n rfl rfl ?_
  refine j_callV (ci := 12) rfl okX12_look c_X12_225 (ct_X12_look (hL9.1.st hS) hL9.2.1 (by rw [hL9.2.2.1.1]; omega) (by rw [hL9.2.2.1.1]; omega)) rfl rfl ((hL9.1.st hS).lt (by decide)) ((hL9.1.st hS).k (by decide) (by decide)) (by decide) rfl (Nat.le_of_ble_eq_true rfl) (RB.call hRB (by omega) (by decide)) ⟨Nat.le_refl _, Nat.le_refl _⟩ ?_
  rintro vq mq ⟨e1, e2⟩
  rw [hL9.1.ch, hL9.2.2.1.1] at e1
  rw [e1, e2]
  clear e1 e2
  simp only [Option.toList_some, Option.toList_none, List.cons_append, List.nil_append]
  have cr10 := chR_rng hI0 (b + kxt (chR m) b 33)
  refine j_istore_n rfl (by decide) ?_
  refine j_iload_n rfl rfl ?_
  refine j_bipush rfl (by decide) ?_
  refine j_icmp_eq (tgt := 135) rfl (by decide) (by omega) (by omega) (by omega) (by omega) (fun hb121_1 => ?_) (fun hb121_1 => ?_)
  · skip
    refine j_aload_n rfl rfl ?_
    refine j_dup rfl (Nat.ne_of_beq_eq_false rfl) ?_
    refine j_getI rfl f_X12_210 rfl ((hL9.1.st hS).lt (by decide)) ((hL9.1.st hS).k (by decide) (by decide)) ?_
    have u137_1 := mi_rng N8 86 17
    refine j_iconst rfl ?_
    refine j_iadd rfl ?_
    refine j_putI rfl f_X12_210 rfl ((hL9.1.st hS).lt (by decide)) ((hL9.1.st hS).k (by decide) (by decide)) ?_
    have lt13 := lt_end (chR_end m) (a := (b + kxt (chR m) b 33)) (by omega)
    rw [hL9.2.2.1.1]
    have hL12 := hL9.adv (d := ((b + kxt (chR m) b 33) + 1)) (by omega) (by omega)
    generalize si N8 86 17 ((b + kxt (chR m) b 33) + 1) = N11 at hL12 ⊢
    refine j_aload_n rfl rfl ?_
    refine j_callV (ci := 12) rfl okX12_look c_X12_225 (ct_X12_look (hL12.1.st hS) hL12.2.1 (by rw [hL12.2.2.1.1]; omega) (by rw [hL12.2.2.1.1]; omega)) rfl rfl ((hL12.1.st hS).lt (by decide)) ((hL12.1.st hS).k (by decide) (by decide)) (by decide) rfl (Nat.le_of_ble_eq_true rfl) (RB.call hRB (by omega) (by decide)) ⟨Nat.le_refl _, Nat.le_refl _⟩ ?_
    rintro vq mq ⟨e1, e2⟩
    rw [hL12.1.ch, hL12.2.2.1.1] at e1
    rw [e1, e2]
    clear e1 e2
    simp only [Option.toList_some, Option.toList_none, List.cons_append, List.nil_append]
    have cr14 := chR_rng hI0 ((b + kxt (chR m) b 33) + 1)
    refine j_bipush rfl (by decide) ?_
    refine j_iload_n rfl rfl ?_
    refine j_bipush rfl (by decide) ?_
    refine j_icmp_ne (tgt := 162) rfl (by decide) (by omega) (by omega) (by omega) (by omega) (fun hb154_1 => ?_) (fun hb154_1 => ?_)
    · skip
      refine j_bipush rfl (by decide) ?_
      refine j_callS (As := [_, _, _]) rfl okX12_in c_X12_194 (ct_X12_in (by omega) (by omega) (by omega) (by omega) (by omega) (by omega)) rfl rfl (Nat.le_of_ble_eq_true rfl) (RB.call hRB (by omega) (by decide)) ⟨Nat.le_refl _, Nat.le_refl _⟩ ?_
      rintro vq mq ⟨e1, e2⟩
      rw [e1, e2]
      clear e1 e2
      simp only [Option.toList_some, Option.toList_none, List.cons_append, List.nil_append]
      refine j_bif_ne (tgt := 175) rfl (by decide) (fun hb167_1 => ?_) (fun hb167_1 => ?_)
      · skip
        refine j_aload_n rfl rfl ?_
        refine j_getR (q := 94) rfl f_X12_32 rfl ((hL12.1.st hS).lt (by decide)) ((hL12.1.st hS).k (by decide) (by decide)) ((hL12.1.st hS).r (by decide)) ?_
        refine j_iload_n rfl rfl ?_
        refine j_aload_n rfl rfl ?_
        refine j_callV (ci := 12) rfl okX12_look c_X12_225 (ct_X12_look (hL12.1.st hS) hL12.2.1 (by rw [hL12.2.2.1.1]; omega) (by rw [hL12.2.2.1.1]; omega)) rfl rfl ((hL12.1.st hS).lt (by decide)) ((hL12.1.st hS).k (by decide) (by decide)) (by decide) rfl (Nat.le_of_ble_eq_true rfl) (RB.call hRB (by omega) (by decide)) ⟨Nat.le_refl _, Nat.le_refl _⟩ ?_
        rintro vq mq ⟨e1, e2⟩
        rw [hL12.1.ch, hL12.2.2.1.1] at e1
        rw [e1, e2]
        clear e1 e2
        simp only [Option.toList_some, Option.toList_none, List.cons_append, List.nil_append]
        have cr15 := chR_rng hI0 ((b + kxt (chR m) b 33) + 1)
        refine j_bipush rfl (by decide) ?_
        refine j_isub rfl ?_
        refine j_iload_n rfl rfl ?_
        refine j_bipush rfl (by decide) ?_
        refine j_icmp_ne (tgt := 198) rfl (by decide) (by omega) (by omega) (by omega) (by omega) (fun hb190_1 => ?_) (fun hb190_1 => ?_)
        · skip
          refine j_iconst rfl ?_
          refine j_iadd rfl ?_
          refine j_iast (n := 84) rfl ((hL12.1.st hS).lt (by decide)) ((hL12.1.st hS).k (by decide) (by decide)) ((hL12.1.st hS).n (by decide) (by decide)) (by omega) (by omega) (by first | decide | omega) ?_
          have hT : pTgt (chR m) (b + kxt (chR m) b 33) = .ok (((chR m ((b + kxt (chR m) b 33) + 1)) - 48) + 0) := by unfold pTgt; first | (rw [if_pos (by omega), if_pos (by omega)]; congr 1; omega) | (rw [if_neg (by omega), if_pos (by omega), if_pos (by omega)])
          unfold pRest at hQ
          rw [hT] at hQ
          dsimp only at hQ
          have hL17 := hL12.s94 (v := (((chR m ((b + kxt (chR m) b 33) + 1)) - 48) + 0)) (by omega)
          generalize si N11 94 (72 + l).toNat (((chR m ((b + kxt (chR m) b 33) + 1)) - 48) + 0) = N16 at hL17 ⊢
          refine j_aload_n rfl rfl ?_
          refine j_dup rfl (Nat.ne_of_beq_eq_false rfl) ?_
          refine j_getI rfl f_X12_210 rfl ((hL17.1.st hS).lt (by decide)) ((hL17.1.st hS).k (by decide) (by decide)) ?_
          have u203_1 := mi_rng N16 86 17
          refine j_iconst rfl ?_
          refine j_iadd rfl ?_
          refine j_putI rfl f_X12_210 rfl ((hL17.1.st hS).lt (by decide)) ((hL17.1.st hS).k (by decide) (by decide)) ?_
          have lt20 := lt_end (chR_end m) (a := ((b + kxt (chR m) b 33) + 1)) (by omega)
          rw [hL17.2.2.1.1]
          have hL19 := hL17.adv (d := (((b + kxt (chR m) b 33) + 1) + 1)) (by omega) (by omega)
          generalize si N16 86 17 (((b + kxt (chR m) b 33) + 1) + 1) = N18 at hL19 ⊢
          refine j_aload_n rfl rfl ?_
          refine j_bipush rfl (by decide) ?_
          refine j_callV (ci := 12) rfl okX12_isNext c_X12_261 (ct_X12_isNextU (hL19.1.st hS) hL19.2.1 hL19.2.2.1 (by omega) (by rw [show mi N18 86 16 = mi m 86 16 from hL19.1.cell (by decide) (by decide) (by omega) (by decide)]; omega) (by omega) (by decide)) rfl rfl ((hL19.1.st hS).lt (by decide)) ((hL19.1.st hS).k (by decide) (by decide)) (by decide) rfl (Nat.le_of_ble_eq_true rfl) (RB.call hRB (by omega) (by decide)) ⟨Nat.le_refl _, Nat.le_refl _⟩ ?_
          rintro vq N21 ⟨e1, qf, qi, qp⟩
          rw [hL19.1.ch] at e1 qp
          rw [e1]
          clear e1
          simp only [Option.toList_some, Option.toList_none, List.cons_append, List.nil_append]
          have hL22 := hL19.fp qf qi qp
          clear qf qi qp
          have kx23 := kxt_c (chR m) (((b + kxt (chR m) b 33) + 1) + 1) 61
          have kl24 := fun (z : chR m (((b + kxt (chR m) b 33) + 1) + 1) = 61) => lt_end (chR_end m) (a := (((b + kxt (chR m) b 33) + 1) + 1)) (by omega)
          have kb25 : ((((b + kxt (chR m) b 33) + 1) + 1) + kxt (chR m) (((b + kxt (chR m) b 33) + 1) + 1) 61) ≤ mi m 86 16 := by omega
          refine j_if_ne (tgt := 225) rfl (by decide) (by omega) (by omega) (fun hb217_1 => ?_) (fun hb217_1 => ?_)
          · skip
            rw [if_pos (by omega)] at hQ
            have hkp : ((((b + kxt (chR m) b 33) + 1) + 1) + kxt (chR m) (((b + kxt (chR m) b 33) + 1) + 1) 61) = (((b + kxt (chR m) b 33) + 1) + 1) + 1 := by omega
            rw [← hkp] at hQ
            refine j_aload_n rfl rfl ?_
            refine j_callV (ci := 12) rfl okX12_either c_X12_243 (ct_X12_eitherA G N21 ((((b + kxt (chR m) b 33) + 1) + 1) + kxt (chR m) (((b + kxt (chR m) b 33) + 1) + 1) 61) v (hL22.1.st hS) hL22.2.1 hL22.2.2.1 (by omega) (by rw [show mi N21 86 16 = mi m 86 16 from hL22.1.cell (by decide) (by decide) (by omega) (by decide)]; omega) (by omega)) rfl rfl ((hL22.1.st hS).lt (by decide)) ((hL22.1.st hS).k (by decide) (by decide)) (by decide) rfl (Nat.le_of_ble_eq_true rfl) (RB.call hRB (by omega) (by decide)) ⟨Nat.le_refl _, Nat.le_refl _⟩ ?_
            rintro vq N26 ⟨e1, hR⟩
            rw [e1]
            clear e1
            rw [hL22.1.ch] at hR
            dsimp only at hR
            simp only [Option.toList_some, Option.toList_none, List.nil_append]
            cases hres : pAll (chR m) true (((((b + kxt (chR m) b 33) + 1) + 1) + kxt (chR m) (((b + kxt (chR m) b 33) + 1) + 1) 61), v) with
            | error p =>
              rw [hres] at hR hQ
              obtain ⟨hFb, hIb, hX⟩ := hR
              have hX : PX N26 ((((b + kxt (chR m) b 33) + 1) + 1) + kxt (chR m) (((b + kxt (chR m) b 33) + 1) + 1) 61) v.length p := hX
              obtain ⟨x1, x2, x3, x4, x5, x6⟩ := hX
              have hFc := hL22.1.fp hFb
              have e16 : mi N26 86 16 = mi m 86 16 := hFc.cell (by decide) (by decide) (by omega) (by decide)
              have e91 : mi N26 91 6 = l := (hFb.cell (by decide) (by decide)).trans hL22.2.2.2.2
              refine j_aload_n rfl rfl ?_
              refine j_getR (q := 97) rfl f_X12_41 rfl ((hFc.st hS).lt (by decide)) ((hFc.st hS).k (by decide) (by decide)) ((hFc.st hS).r (by decide)) ?_
              refine j_iload_n rfl rfl ?_
              refine j_aload_n rfl rfl ?_
              refine j_getI rfl f_X12_216 rfl ((hFc.st hS).lt (by decide)) ((hFc.st hS).k (by decide) (by decide)) ?_
              have u235_1 := mi_rng N26 86 20
              refine j_iast (n := 84) rfl ((hFc.st hS).lt (by decide)) ((hFc.st hS).k (by decide) (by decide)) ((hFc.st hS).n (by decide) (by decide)) (by omega) (by omega) (by first | decide | omega) ?_
              have e91b : mi (si N26 97 (72 + l).toNat (mi N26 86 20)) 91 (6 : Int).toNat = l := (mi_si_ne _ _ (fun q => absurd q.1 (by decide))).trans e91
              refine j_aload_n rfl rfl ?_
              refine j_getR (q := 91) rfl f_X12_22 rfl ((hFc.st hS).lt (by decide)) ((hFc.st hS).k (by decide) (by decide)) ((hFc.st hS).r (by decide)) ?_
              refine j_bipush rfl (by decide) ?_
              refine j_dup2 rfl (Nat.ne_of_beq_eq_false rfl) (Nat.ne_of_beq_eq_false rfl) ?_
              refine j_iald (n := 7) rfl ((hFc.st hS).lt (by decide)) ((hFc.st hS).k (by decide) (by decide)) ((hFc.st hS).n (by decide) (by decide)) (by omega) (by omega) (by decide) ?_
              rw [show mi (si N26 97 (72 + l).toNat (mi N26 86 20)) 91 (6 : Int).toNat = mi N26 91 (6 : Int).toNat from by simp [mi_si, mi_fil, mi_cpr, mi_sl, mi_sr, ml_sl, ml_si, ml_sr, ml_fil, ml_cpr]]
              have u246_1 := hIb.a 91 (0) 12 (by decide) (6 : Int).toNat
              refine j_iconst rfl ?_
              refine j_iadd rfl ?_
              refine j_iast (n := 7) rfl ((hFc.st hS).lt (by decide)) ((hFc.st hS).k (by decide) (by decide)) ((hFc.st hS).n (by decide) (by decide)) (by omega) (by omega) (by first | decide | omega) ?_
              refine j_vret rfl rfl ?_ rfl (Nat.le_refl _)
              have hQ : (Except.error p : Except Int (PSt × LRec)) = R := hQ
              subst hQ
              refine ⟨rfl, ?_⟩
              rw [show mi N26 91 (6 : Int).toNat = l from e91]
              exact PQ.err hFc hIb hl0 hl1 x1 x2 (by omega)
            | ok z =>
              rw [hres] at hR hQ
              obtain ⟨hFb, hIb, hPb⟩ := hR
              have hPb : PS N26 z.1 0 z.2 := hPb
              have hLz := hL22.fp hFb hIb hPb
              obtain ⟨g1, g2, w2, g3, g4, g5, -⟩ := (hg ((((b + kxt (chR m) b 33) + 1) + 1) + kxt (chR m) (((b + kxt (chR m) b 33) + 1) + 1) 61) v (by omega) (by omega)).1 z hres
              have g7 : (z.2.length : Int) ≤ v.length + (z.1 - ((((b + kxt (chR m) b 33) + 1) + 1) + kxt (chR m) (((b + kxt (chR m) b 33) + 1) + 1) 61)) := by rw [g3, List.length_append]; omega
              have e91 := hLz.2.2.2.2
              refine j_aload_n rfl rfl ?_
              refine j_getR (q := 97) rfl f_X12_41 rfl ((hLz.1.st hS).lt (by decide)) ((hLz.1.st hS).k (by decide) (by decide)) ((hLz.1.st hS).r (by decide)) ?_
              refine j_iload_n rfl rfl ?_
              refine j_aload_n rfl rfl ?_
              refine j_getI rfl f_X12_216 rfl ((hLz.1.st hS).lt (by decide)) ((hLz.1.st hS).k (by decide) (by decide)) ?_
              have u235_2 := mi_rng N26 86 20
              refine j_iast (n := 84) rfl ((hLz.1.st hS).lt (by decide)) ((hLz.1.st hS).k (by decide) (by decide)) ((hLz.1.st hS).n (by decide) (by decide)) (by omega) (by omega) (by first | decide | omega) ?_
              rw [hLz.2.2.1.2.2.2.1]
              have e91b : mi (si N26 97 (72 + l).toNat (z.2.length : Int)) 91 (6 : Int).toNat = l := (mi_si_ne _ _ (fun q => absurd q.1 (by decide))).trans e91
              refine j_aload_n rfl rfl ?_
              refine j_getR (q := 91) rfl f_X12_22 rfl ((hLz.1.st hS).lt (by decide)) ((hLz.1.st hS).k (by decide) (by decide)) ((hLz.1.st hS).r (by decide)) ?_
              refine j_bipush rfl (by decide) ?_
              refine j_dup2 rfl (Nat.ne_of_beq_eq_false rfl) (Nat.ne_of_beq_eq_false rfl) ?_
              refine j_iald (n := 7) rfl ((hLz.1.st hS).lt (by decide)) ((hLz.1.st hS).k (by decide) (by decide)) ((hLz.1.st hS).n (by decide) (by decide)) (by omega) (by omega) (by decide) ?_
              rw [show mi (si N26 97 (72 + l).toNat (z.2.length : Int)) 91 (6 : Int).toNat = mi N26 91 (6 : Int).toNat from by simp [mi_si, mi_fil, mi_cpr, mi_sl, mi_sr, ml_sl, ml_si, ml_sr, ml_fil, ml_cpr]]
              have u246_2 := hLz.2.1.a 91 (0) 12 (by decide) (6 : Int).toNat
              refine j_iconst rfl ?_
              refine j_iadd rfl ?_
              refine j_iast (n := 7) rfl ((hLz.1.st hS).lt (by decide)) ((hLz.1.st hS).k (by decide) (by decide)) ((hLz.1.st hS).n (by decide) (by decide)) (by omega) (by omega) (by first | decide | omega) ?_
              refine j_vret rfl rfl ?_ rfl (Nat.le_refl _)
              have hQ : (Except.ok (z, _) : Except Int (PSt × LRec)) = R := hQ
              subst hQ
              refine ⟨rfl, ?_⟩
              rw [show mi N26 91 (6 : Int).toNat = l from e91]
              exact PQ.fin hLz hl0 hl1 (by omega)
          · skip
            refine j_aload_n rfl rfl ?_
            refine j_callV (ci := 12) rfl okX12_wrong c_X12_222 (ct_X12_wrong (hL22.1.st hS) hL22.2.1) rfl rfl ((hL22.1.st hS).lt (by decide)) ((hL22.1.st hS).k (by decide) (by decide)) (by decide) rfl (Nat.le_of_ble_eq_true rfl) (RB.call hRB (by omega) (by decide)) ⟨Nat.le_refl _, Nat.le_refl _⟩ ?_
            have hz0 : ((((b + kxt (chR m) b 33) + 1) + 1) + kxt (chR m) (((b + kxt (chR m) b 33) + 1) + 1) 61) = (((b + kxt (chR m) b 33) + 1) + 1) := by omega
            rw [hz0] at hL22
            rintro vq mq ⟨e1, e2⟩
            rw [if_neg (by rw [hL22.2.2.1.2.1]; decide), hL22.2.2.1.1] at e2
            rw [e1, e2]
            clear e1 e2
            simp only [Option.toList_some, Option.toList_none, List.cons_append, List.nil_append]
            have hB := hL22.bad (by omega) (by omega)
            refine j_vret rfl rfl ?_ rfl (Nat.le_refl _)
            exact ⟨rfl, by rw [if_neg (by omega)] at hQ; rw [← hQ]; exact ⟨hB.1, hB.2.1, hB.2.2⟩⟩
        · skip
          refine j_bipush rfl (by decide) ?_
          refine j_goto (tgt := 199) rfl (by decide) ?_
          refine j_iadd rfl ?_
          refine j_iast (n := 84) rfl ((hL12.1.st hS).lt (by decide)) ((hL12.1.st hS).k (by decide) (by decide)) ((hL12.1.st hS).n (by decide) (by decide)) (by omega) (by omega) (by first | decide | omega) ?_
          have hT : pTgt (chR m) (b + kxt (chR m) b 33) = .ok (((chR m ((b + kxt (chR m) b 33) + 1)) - 48) + 10) := by unfold pTgt; first | (rw [if_pos (by omega), if_pos (by omega)]; congr 1; omega) | (rw [if_neg (by omega), if_pos (by omega), if_pos (by omega)])
          unfold pRest at hQ
          rw [hT] at hQ
          dsimp only at hQ
          have hL28 := hL12.s94 (v := (((chR m ((b + kxt (chR m) b 33) + 1)) - 48) + 10)) (by omega)
          generalize si N11 94 (72 + l).toNat (((chR m ((b + kxt (chR m) b 33) + 1)) - 48) + 10) = N27 at hL28 ⊢
          refine j_aload_n rfl rfl ?_
          refine j_dup rfl (Nat.ne_of_beq_eq_false rfl) ?_
          refine j_getI rfl f_X12_210 rfl ((hL28.1.st hS).lt (by decide)) ((hL28.1.st hS).k (by decide) (by decide)) ?_
          have u203_2 := mi_rng N27 86 17
          refine j_iconst rfl ?_
          refine j_iadd rfl ?_
          refine j_putI rfl f_X12_210 rfl ((hL28.1.st hS).lt (by decide)) ((hL28.1.st hS).k (by decide) (by decide)) ?_
          have lt31 := lt_end (chR_end m) (a := ((b + kxt (chR m) b 33) + 1)) (by omega)
          rw [hL28.2.2.1.1]
          have hL30 := hL28.adv (d := (((b + kxt (chR m) b 33) + 1) + 1)) (by omega) (by omega)
          generalize si N27 86 17 (((b + kxt (chR m) b 33) + 1) + 1) = N29 at hL30 ⊢
          refine j_aload_n rfl rfl ?_
          refine j_bipush rfl (by decide) ?_
          refine j_callV (ci := 12) rfl okX12_isNext c_X12_261 (ct_X12_isNextU (hL30.1.st hS) hL30.2.1 hL30.2.2.1 (by omega) (by rw [show mi N29 86 16 = mi m 86 16 from hL30.1.cell (by decide) (by decide) (by omega) (by decide)]; omega) (by omega) (by decide)) rfl rfl ((hL30.1.st hS).lt (by decide)) ((hL30.1.st hS).k (by decide) (by decide)) (by decide) rfl (Nat.le_of_ble_eq_true rfl) (RB.call hRB (by omega) (by decide)) ⟨Nat.le_refl _, Nat.le_refl _⟩ ?_
          rintro vq N32 ⟨e1, qf, qi, qp⟩
          rw [hL30.1.ch] at e1 qp
          rw [e1]
          clear e1
          simp only [Option.toList_some, Option.toList_none, List.cons_append, List.nil_append]
          have hL33 := hL30.fp qf qi qp
          clear qf qi qp
          have kx34 := kxt_c (chR m) (((b + kxt (chR m) b 33) + 1) + 1) 61
          have kl35 := fun (z : chR m (((b + kxt (chR m) b 33) + 1) + 1) = 61) => lt_end (chR_end m) (a := (((b + kxt (chR m) b 33) + 1) + 1)) (by omega)
          have kb36 : ((((b + kxt (chR m) b 33) + 1) + 1) + kxt (chR m) (((b + kxt (chR m) b 33) + 1) + 1) 61) ≤ mi m 86 16 := by omega
          refine j_if_ne (tgt := 225) rfl (by decide) (by omega) (by omega) (fun hb217_2 => ?_) (fun hb217_2 => ?_)
          · skip
            rw [if_pos (by omega)] at hQ
            have hkp : ((((b + kxt (chR m) b 33) + 1) + 1) + kxt (chR m) (((b + kxt (chR m) b 33) + 1) + 1) 61) = (((b + kxt (chR m) b 33) + 1) + 1) + 1 := by omega
            rw [← hkp] at hQ
            refine j_aload_n rfl rfl ?_
            refine j_callV (ci := 12) rfl okX12_either c_X12_243 (ct_X12_eitherA G N32 ((((b + kxt (chR m) b 33) + 1) + 1) + kxt (chR m) (((b + kxt (chR m) b 33) + 1) + 1) 61) v (hL33.1.st hS) hL33.2.1 hL33.2.2.1 (by omega) (by rw [show mi N32 86 16 = mi m 86 16 from hL33.1.cell (by decide) (by decide) (by omega) (by decide)]; omega) (by omega)) rfl rfl ((hL33.1.st hS).lt (by decide)) ((hL33.1.st hS).k (by decide) (by decide)) (by decide) rfl (Nat.le_of_ble_eq_true rfl) (RB.call hRB (by omega) (by decide)) ⟨Nat.le_refl _, Nat.le_refl _⟩ ?_
            rintro vq N37 ⟨e1, hR⟩
            rw [e1]
            clear e1
            rw [hL33.1.ch] at hR
            dsimp only at hR
            simp only [Option.toList_some, Option.toList_none, List.nil_append]
            cases hres : pAll (chR m) true (((((b + kxt (chR m) b 33) + 1) + 1) + kxt (chR m) (((b + kxt (chR m) b 33) + 1) + 1) 61), v) with
            | error p =>
              rw [hres] at hR hQ
              obtain ⟨hFb, hIb, hX⟩ := hR
              have hX : PX N37 ((((b + kxt (chR m) b 33) + 1) + 1) + kxt (chR m) (((b + kxt (chR m) b 33) + 1) + 1) 61) v.length p := hX
              obtain ⟨x1, x2, x3, x4, x5, x6⟩ := hX
              have hFc := hL33.1.fp hFb
              have e16 : mi N37 86 16 = mi m 86 16 := hFc.cell (by decide) (by decide) (by omega) (by decide)
              have e91 : mi N37 91 6 = l := (hFb.cell (by decide) (by decide)).trans hL33.2.2.2.2
              refine j_aload_n rfl rfl ?_
              refine j_getR (q := 97) rfl f_X12_41 rfl ((hFc.st hS).lt (by decide)) ((hFc.st hS).k (by decide) (by decide)) ((hFc.st hS).r (by decide)) ?_
              refine j_iload_n rfl rfl ?_
              refine j_aload_n rfl rfl ?_
              refine j_getI rfl f_X12_216 rfl ((hFc.st hS).lt (by decide)) ((hFc.st hS).k (by decide) (by decide)) ?_
              have u235_3 := mi_rng N37 86 20
              refine j_iast (n := 84) rfl ((hFc.st hS).lt (by decide)) ((hFc.st hS).k (by decide) (by decide)) ((hFc.st hS).n (by decide) (by decide)) (by omega) (by omega) (by first | decide | omega) ?_
              have e91b : mi (si N37 97 (72 + l).toNat (mi N37 86 20)) 91 (6 : Int).toNat = l := (mi_si_ne _ _ (fun q => absurd q.1 (by decide))).trans e91
              refine j_aload_n rfl rfl ?_
              refine j_getR (q := 91) rfl f_X12_22 rfl ((hFc.st hS).lt (by decide)) ((hFc.st hS).k (by decide) (by decide)) ((hFc.st hS).r (by decide)) ?_
              refine j_bipush rfl (by decide) ?_
              refine j_dup2 rfl (Nat.ne_of_beq_eq_false rfl) (Nat.ne_of_beq_eq_false rfl) ?_
              refine j_iald (n := 7) rfl ((hFc.st hS).lt (by decide)) ((hFc.st hS).k (by decide) (by decide)) ((hFc.st hS).n (by decide) (by decide)) (by omega) (by omega) (by decide) ?_
              rw [show mi (si N37 97 (72 + l).toNat (mi N37 86 20)) 91 (6 : Int).toNat = mi N37 91 (6 : Int).toNat from by simp [mi_si, mi_fil, mi_cpr, mi_sl, mi_sr, ml_sl, ml_si, ml_sr, ml_fil, ml_cpr]]
              have u246_3 := hIb.a 91 (0) 12 (by decide) (6 : Int).toNat
              refine j_iconst rfl ?_
              refine j_iadd rfl ?_
              refine j_iast (n := 7) rfl ((hFc.st hS).lt (by decide)) ((hFc.st hS).k (by decide) (by decide)) ((hFc.st hS).n (by decide) (by decide)) (by omega) (by omega) (by first | decide | omega) ?_
              refine j_vret rfl rfl ?_ rfl (Nat.le_refl _)
              have hQ : (Except.error p : Except Int (PSt × LRec)) = R := hQ
              subst hQ
              refine ⟨rfl, ?_⟩
              rw [show mi N37 91 (6 : Int).toNat = l from e91]
              exact PQ.err hFc hIb hl0 hl1 x1 x2 (by omega)
            | ok z =>
              rw [hres] at hR hQ
              obtain ⟨hFb, hIb, hPb⟩ := hR
              have hPb : PS N37 z.1 0 z.2 := hPb
              have hLz := hL33.fp hFb hIb hPb
              obtain ⟨g1, g2, w2, g3, g4, g5, -⟩ := (hg ((((b + kxt (chR m) b 33) + 1) + 1) + kxt (chR m) (((b + kxt (chR m) b 33) + 1) + 1) 61) v (by omega) (by omega)).1 z hres
              have g7 : (z.2.length : Int) ≤ v.length + (z.1 - ((((b + kxt (chR m) b 33) + 1) + 1) + kxt (chR m) (((b + kxt (chR m) b 33) + 1) + 1) 61)) := by rw [g3, List.length_append]; omega
              have e91 := hLz.2.2.2.2
              refine j_aload_n rfl rfl ?_
              refine j_getR (q := 97) rfl f_X12_41 rfl ((hLz.1.st hS).lt (by decide)) ((hLz.1.st hS).k (by decide) (by decide)) ((hLz.1.st hS).r (by decide)) ?_
              refine j_iload_n rfl rfl ?_
              refine j_aload_n rfl rfl ?_
              refine j_getI rfl f_X12_216 rfl ((hLz.1.st hS).lt (by decide)) ((hLz.1.st hS).k (by decide) (by decide)) ?_
              have u235_4 := mi_rng N37 86 20
              refine j_iast (n := 84) rfl ((hLz.1.st hS).lt (by decide)) ((hLz.1.st hS).k (by decide) (by decide)) ((hLz.1.st hS).n (by decide) (by decide)) (by omega) (by omega) (by first | decide | omega) ?_
              rw [hLz.2.2.1.2.2.2.1]
              have e91b : mi (si N37 97 (72 + l).toNat (z.2.length : Int)) 91 (6 : Int).toNat = l := (mi_si_ne _ _ (fun q => absurd q.1 (by decide))).trans e91
              refine j_aload_n rfl rfl ?_
              refine j_getR (q := 91) rfl f_X12_22 rfl ((hLz.1.st hS).lt (by decide)) ((hLz.1.st hS).k (by decide) (by decide)) ((hLz.1.st hS).r (by decide)) ?_
              refine j_bipush rfl (by decide) ?_
              refine j_dup2 rfl (Nat.ne_of_beq_eq_false rfl) (Nat.ne_of_beq_eq_false rfl) ?_
              refine j_iald (n := 7) rfl ((hLz.1.st hS).lt (by decide)) ((hLz.1.st hS).k (by decide) (by decide)) ((hLz.1.st hS).n (by decide) (by decide)) (by omega) (by omega) (by decide) ?_
              rw [show mi (si N37 97 (72 + l).toNat (z.2.length : Int)) 91 (6 : Int).toNat = mi N37 91 (6 : Int).toNat from by simp [mi_si, mi_fil, mi_cpr, mi_sl, mi_sr, ml_sl, ml_si, ml_sr, ml_fil, ml_cpr]]
              have u246_4 := hLz.2.1.a 91 (0) 12 (by decide) (6 : Int).toNat
              refine j_iconst rfl ?_
              refine j_iadd rfl ?_
              refine j_iast (n := 7) rfl ((hLz.1.st hS).lt (by decide)) ((hLz.1.st hS).k (by decide) (by decide)) ((hLz.1.st hS).n (by decide) (by decide)) (by omega) (by omega) (by first | decide | omega) ?_
              refine j_vret rfl rfl ?_ rfl (Nat.le_refl _)
              have hQ : (Except.ok (z, _) : Except Int (PSt × LRec)) = R := hQ
              subst hQ
              refine ⟨rfl, ?_⟩
              rw [show mi N37 91 (6 : Int).toNat = l from e91]
              exact PQ.fin hLz hl0 hl1 (by omega)
          · skip
            refine j_aload_n rfl rfl ?_
            refine j_callV (ci := 12) rfl okX12_wrong c_X12_222 (ct_X12_wrong (hL33.1.st hS) hL33.2.1) rfl rfl ((hL33.1.st hS).lt (by decide)) ((hL33.1.st hS).k (by decide) (by decide)) (by decide) rfl (Nat.le_of_ble_eq_true rfl) (RB.call hRB (by omega) (by decide)) ⟨Nat.le_refl _, Nat.le_refl _⟩ ?_
            have hz0 : ((((b + kxt (chR m) b 33) + 1) + 1) + kxt (chR m) (((b + kxt (chR m) b 33) + 1) + 1) 61) = (((b + kxt (chR m) b 33) + 1) + 1) := by omega
            rw [hz0] at hL33
            rintro vq mq ⟨e1, e2⟩
            rw [if_neg (by rw [hL33.2.2.1.2.1]; decide), hL33.2.2.1.1] at e2
            rw [e1, e2]
            clear e1 e2
            simp only [Option.toList_some, Option.toList_none, List.cons_append, List.nil_append]
            have hB := hL33.bad (by omega) (by omega)
            refine j_vret rfl rfl ?_ rfl (Nat.le_refl _)
            exact ⟨rfl, by rw [if_neg (by omega)] at hQ; rw [← hQ]; exact ⟨hB.1, hB.2.1, hB.2.2⟩⟩
      · skip
        refine j_aload_n rfl rfl ?_
        refine j_callV (ci := 12) rfl okX12_wrong c_X12_222 (ct_X12_wrong (hL12.1.st hS) hL12.2.1) rfl rfl ((hL12.1.st hS).lt (by decide)) ((hL12.1.st hS).k (by decide) (by decide)) (by decide) rfl (Nat.le_of_ble_eq_true rfl) (RB.call hRB (by omega) (by decide)) ⟨Nat.le_refl _, Nat.le_refl _⟩ ?_
        rintro vq mq ⟨e1, e2⟩
        rw [if_neg (by rw [hL12.2.2.1.2.1]; decide), hL12.2.2.1.1] at e2
        rw [e1, e2]
        clear e1 e2
        simp only [Option.toList_some, Option.toList_none, List.cons_append, List.nil_append]
        have hB := hL12.bad (by omega) (by omega)
        refine j_vret rfl rfl ?_ rfl (Nat.le_refl _)
        exact ⟨rfl, by rw [← hQ]; unfold pRest pTgt; first | (rw [if_neg (by omega), if_neg (by omega)]; exact ⟨hB.1, hB.2.1, hB.2.2⟩) | (rw [if_pos (by omega), if_neg (by omega)]; exact ⟨hB.1, hB.2.1, hB.2.2⟩) | (rw [if_neg (by omega), if_pos (by omega), if_neg (by omega)]; exact ⟨hB.1, hB.2.1, hB.2.2⟩)⟩
    · skip
      refine j_bipush rfl (by decide) ?_
      refine j_goto (tgt := 164) rfl (by decide) ?_
      refine j_callS (As := [_, _, _]) rfl okX12_in c_X12_194 (ct_X12_in (by omega) (by omega) (by omega) (by omega) (by omega) (by omega)) rfl rfl (Nat.le_of_ble_eq_true rfl) (RB.call hRB (by omega) (by decide)) ⟨Nat.le_refl _, Nat.le_refl _⟩ ?_
      rintro vq mq ⟨e1, e2⟩
      rw [e1, e2]
      clear e1 e2
      simp only [Option.toList_some, Option.toList_none, List.cons_append, List.nil_append]
      refine j_bif_ne (tgt := 175) rfl (by decide) (fun hb167_2 => ?_) (fun hb167_2 => ?_)
      · skip
        refine j_aload_n rfl rfl ?_
        refine j_getR (q := 94) rfl f_X12_32 rfl ((hL12.1.st hS).lt (by decide)) ((hL12.1.st hS).k (by decide) (by decide)) ((hL12.1.st hS).r (by decide)) ?_
        refine j_iload_n rfl rfl ?_
        refine j_aload_n rfl rfl ?_
        refine j_callV (ci := 12) rfl okX12_look c_X12_225 (ct_X12_look (hL12.1.st hS) hL12.2.1 (by rw [hL12.2.2.1.1]; omega) (by rw [hL12.2.2.1.1]; omega)) rfl rfl ((hL12.1.st hS).lt (by decide)) ((hL12.1.st hS).k (by decide) (by decide)) (by decide) rfl (Nat.le_of_ble_eq_true rfl) (RB.call hRB (by omega) (by decide)) ⟨Nat.le_refl _, Nat.le_refl _⟩ ?_
        rintro vq mq ⟨e1, e2⟩
        rw [hL12.1.ch, hL12.2.2.1.1] at e1
        rw [e1, e2]
        clear e1 e2
        simp only [Option.toList_some, Option.toList_none, List.cons_append, List.nil_append]
        have cr38 := chR_rng hI0 ((b + kxt (chR m) b 33) + 1)
        refine j_bipush rfl (by decide) ?_
        refine j_isub rfl ?_
        refine j_iload_n rfl rfl ?_
        refine j_bipush rfl (by decide) ?_
        refine j_icmp_ne (tgt := 198) rfl (by decide) (by omega) (by omega) (by omega) (by omega) (fun hb190_2 => ?_) (fun hb190_2 => ?_)
        · skip
          refine j_iconst rfl ?_
          refine j_iadd rfl ?_
          refine j_iast (n := 84) rfl ((hL12.1.st hS).lt (by decide)) ((hL12.1.st hS).k (by decide) (by decide)) ((hL12.1.st hS).n (by decide) (by decide)) (by omega) (by omega) (by first | decide | omega) ?_
          have hT : pTgt (chR m) (b + kxt (chR m) b 33) = .ok (((chR m ((b + kxt (chR m) b 33) + 1)) - 48) + 0) := by unfold pTgt; first | (rw [if_pos (by omega), if_pos (by omega)]; congr 1; omega) | (rw [if_neg (by omega), if_pos (by omega), if_pos (by omega)])
          unfold pRest at hQ
          rw [hT] at hQ
          dsimp only at hQ
          have hL40 := hL12.s94 (v := (((chR m ((b + kxt (chR m) b 33) + 1)) - 48) + 0)) (by omega)
          generalize si N11 94 (72 + l).toNat (((chR m ((b + kxt (chR m) b 33) + 1)) - 48) + 0) = N39 at hL40 ⊢
          refine j_aload_n rfl rfl ?_
          refine j_dup rfl (Nat.ne_of_beq_eq_false rfl) ?_
          refine j_getI rfl f_X12_210 rfl ((hL40.1.st hS).lt (by decide)) ((hL40.1.st hS).k (by decide) (by decide)) ?_
          have u203_3 := mi_rng N39 86 17
          refine j_iconst rfl ?_
          refine j_iadd rfl ?_
          refine j_putI rfl f_X12_210 rfl ((hL40.1.st hS).lt (by decide)) ((hL40.1.st hS).k (by decide) (by decide)) ?_
          have lt43 := lt_end (chR_end m) (a := ((b + kxt (chR m) b 33) + 1)) (by omega)
          rw [hL40.2.2.1.1]
          have hL42 := hL40.adv (d := (((b + kxt (chR m) b 33) + 1) + 1)) (by omega) (by omega)
          generalize si N39 86 17 (((b + kxt (chR m) b 33) + 1) + 1) = N41 at hL42 ⊢
          refine j_aload_n rfl rfl ?_
          refine j_bipush rfl (by decide) ?_
          refine j_callV (ci := 12) rfl okX12_isNext c_X12_261 (ct_X12_isNextU (hL42.1.st hS) hL42.2.1 hL42.2.2.1 (by omega) (by rw [show mi N41 86 16 = mi m 86 16 from hL42.1.cell (by decide) (by decide) (by omega) (by decide)]; omega) (by omega) (by decide)) rfl rfl ((hL42.1.st hS).lt (by decide)) ((hL42.1.st hS).k (by decide) (by decide)) (by decide) rfl (Nat.le_of_ble_eq_true rfl) (RB.call hRB (by omega) (by decide)) ⟨Nat.le_refl _, Nat.le_refl _⟩ ?_
          rintro vq N44 ⟨e1, qf, qi, qp⟩
          rw [hL42.1.ch] at e1 qp
          rw [e1]
          clear e1
          simp only [Option.toList_some, Option.toList_none, List.cons_append, List.nil_append]
          have hL45 := hL42.fp qf qi qp
          clear qf qi qp
          have kx46 := kxt_c (chR m) (((b + kxt (chR m) b 33) + 1) + 1) 61
          have kl47 := fun (z : chR m (((b + kxt (chR m) b 33) + 1) + 1) = 61) => lt_end (chR_end m) (a := (((b + kxt (chR m) b 33) + 1) + 1)) (by omega)
          have kb48 : ((((b + kxt (chR m) b 33) + 1) + 1) + kxt (chR m) (((b + kxt (chR m) b 33) + 1) + 1) 61) ≤ mi m 86 16 := by omega
          refine j_if_ne (tgt := 225) rfl (by decide) (by omega) (by omega) (fun hb217_3 => ?_) (fun hb217_3 => ?_)
          · skip
            rw [if_pos (by omega)] at hQ
            have hkp : ((((b + kxt (chR m) b 33) + 1) + 1) + kxt (chR m) (((b + kxt (chR m) b 33) + 1) + 1) 61) = (((b + kxt (chR m) b 33) + 1) + 1) + 1 := by omega
            rw [← hkp] at hQ
            refine j_aload_n rfl rfl ?_
            refine j_callV (ci := 12) rfl okX12_either c_X12_243 (ct_X12_eitherA G N44 ((((b + kxt (chR m) b 33) + 1) + 1) + kxt (chR m) (((b + kxt (chR m) b 33) + 1) + 1) 61) v (hL45.1.st hS) hL45.2.1 hL45.2.2.1 (by omega) (by rw [show mi N44 86 16 = mi m 86 16 from hL45.1.cell (by decide) (by decide) (by omega) (by decide)]; omega) (by omega)) rfl rfl ((hL45.1.st hS).lt (by decide)) ((hL45.1.st hS).k (by decide) (by decide)) (by decide) rfl (Nat.le_of_ble_eq_true rfl) (RB.call hRB (by omega) (by decide)) ⟨Nat.le_refl _, Nat.le_refl _⟩ ?_
            rintro vq N49 ⟨e1, hR⟩
            rw [e1]
            clear e1
            rw [hL45.1.ch] at hR
            dsimp only at hR
            simp only [Option.toList_some, Option.toList_none, List.nil_append]
            cases hres : pAll (chR m) true (((((b + kxt (chR m) b 33) + 1) + 1) + kxt (chR m) (((b + kxt (chR m) b 33) + 1) + 1) 61), v) with
            | error p =>
              rw [hres] at hR hQ
              obtain ⟨hFb, hIb, hX⟩ := hR
              have hX : PX N49 ((((b + kxt (chR m) b 33) + 1) + 1) + kxt (chR m) (((b + kxt (chR m) b 33) + 1) + 1) 61) v.length p := hX
              obtain ⟨x1, x2, x3, x4, x5, x6⟩ := hX
              have hFc := hL45.1.fp hFb
              have e16 : mi N49 86 16 = mi m 86 16 := hFc.cell (by decide) (by decide) (by omega) (by decide)
              have e91 : mi N49 91 6 = l := (hFb.cell (by decide) (by decide)).trans hL45.2.2.2.2
              refine j_aload_n rfl rfl ?_
              refine j_getR (q := 97) rfl f_X12_41 rfl ((hFc.st hS).lt (by decide)) ((hFc.st hS).k (by decide) (by decide)) ((hFc.st hS).r (by decide)) ?_
              refine j_iload_n rfl rfl ?_
              refine j_aload_n rfl rfl ?_
              refine j_getI rfl f_X12_216 rfl ((hFc.st hS).lt (by decide)) ((hFc.st hS).k (by decide) (by decide)) ?_
              have u235_5 := mi_rng N49 86 20
              refine j_iast (n := 84) rfl ((hFc.st hS).lt (by decide)) ((hFc.st hS).k (by decide) (by decide)) ((hFc.st hS).n (by decide) (by decide)) (by omega) (by omega) (by first | decide | omega) ?_
              have e91b : mi (si N49 97 (72 + l).toNat (mi N49 86 20)) 91 (6 : Int).toNat = l := (mi_si_ne _ _ (fun q => absurd q.1 (by decide))).trans e91
              refine j_aload_n rfl rfl ?_
              refine j_getR (q := 91) rfl f_X12_22 rfl ((hFc.st hS).lt (by decide)) ((hFc.st hS).k (by decide) (by decide)) ((hFc.st hS).r (by decide)) ?_
              refine j_bipush rfl (by decide) ?_
              refine j_dup2 rfl (Nat.ne_of_beq_eq_false rfl) (Nat.ne_of_beq_eq_false rfl) ?_
              refine j_iald (n := 7) rfl ((hFc.st hS).lt (by decide)) ((hFc.st hS).k (by decide) (by decide)) ((hFc.st hS).n (by decide) (by decide)) (by omega) (by omega) (by decide) ?_
              rw [show mi (si N49 97 (72 + l).toNat (mi N49 86 20)) 91 (6 : Int).toNat = mi N49 91 (6 : Int).toNat from by simp [mi_si, mi_fil, mi_cpr, mi_sl, mi_sr, ml_sl, ml_si, ml_sr, ml_fil, ml_cpr]]
              have u246_5 := hIb.a 91 (0) 12 (by decide) (6 : Int).toNat
              refine j_iconst rfl ?_
              refine j_iadd rfl ?_
              refine j_iast (n := 7) rfl ((hFc.st hS).lt (by decide)) ((hFc.st hS).k (by decide) (by decide)) ((hFc.st hS).n (by decide) (by decide)) (by omega) (by omega) (by first | decide | omega) ?_
              refine j_vret rfl rfl ?_ rfl (Nat.le_refl _)
              have hQ : (Except.error p : Except Int (PSt × LRec)) = R := hQ
              subst hQ
              refine ⟨rfl, ?_⟩
              rw [show mi N49 91 (6 : Int).toNat = l from e91]
              exact PQ.err hFc hIb hl0 hl1 x1 x2 (by omega)
            | ok z =>
              rw [hres] at hR hQ
              obtain ⟨hFb, hIb, hPb⟩ := hR
              have hPb : PS N49 z.1 0 z.2 := hPb
              have hLz := hL45.fp hFb hIb hPb
              obtain ⟨g1, g2, w2, g3, g4, g5, -⟩ := (hg ((((b + kxt (chR m) b 33) + 1) + 1) + kxt (chR m) (((b + kxt (chR m) b 33) + 1) + 1) 61) v (by omega) (by omega)).1 z hres
              have g7 : (z.2.length : Int) ≤ v.length + (z.1 - ((((b + kxt (chR m) b 33) + 1) + 1) + kxt (chR m) (((b + kxt (chR m) b 33) + 1) + 1) 61)) := by rw [g3, List.length_append]; omega
              have e91 := hLz.2.2.2.2
              refine j_aload_n rfl rfl ?_
              refine j_getR (q := 97) rfl f_X12_41 rfl ((hLz.1.st hS).lt (by decide)) ((hLz.1.st hS).k (by decide) (by decide)) ((hLz.1.st hS).r (by decide)) ?_
              refine j_iload_n rfl rfl ?_
              refine j_aload_n rfl rfl ?_
              refine j_getI rfl f_X12_216 rfl ((hLz.1.st hS).lt (by decide)) ((hLz.1.st hS).k (by decide) (by decide)) ?_
              have u235_6 := mi_rng N49 86 20
              refine j_iast (n := 84) rfl ((hLz.1.st hS).lt (by decide)) ((hLz.1.st hS).k (by decide) (by decide)) ((hLz.1.st hS).n (by decide) (by decide)) (by omega) (by omega) (by first | decide | omega) ?_
              rw [hLz.2.2.1.2.2.2.1]
              have e91b : mi (si N49 97 (72 + l).toNat (z.2.length : Int)) 91 (6 : Int).toNat = l := (mi_si_ne _ _ (fun q => absurd q.1 (by decide))).trans e91
              refine j_aload_n rfl rfl ?_
              refine j_getR (q := 91) rfl f_X12_22 rfl ((hLz.1.st hS).lt (by decide)) ((hLz.1.st hS).k (by decide) (by decide)) ((hLz.1.st hS).r (by decide)) ?_
              refine j_bipush rfl (by decide) ?_
              refine j_dup2 rfl (Nat.ne_of_beq_eq_false rfl) (Nat.ne_of_beq_eq_false rfl) ?_
              refine j_iald (n := 7) rfl ((hLz.1.st hS).lt (by decide)) ((hLz.1.st hS).k (by decide) (by decide)) ((hLz.1.st hS).n (by decide) (by decide)) (by omega) (by omega) (by decide) ?_
              rw [show mi (si N49 97 (72 + l).toNat (z.2.length : Int)) 91 (6 : Int).toNat = mi N49 91 (6 : Int).toNat from by simp [mi_si, mi_fil, mi_cpr, mi_sl, mi_sr, ml_sl, ml_si, ml_sr, ml_fil, ml_cpr]]
              have u246_6 := hLz.2.1.a 91 (0) 12 (by decide) (6 : Int).toNat
              refine j_iconst rfl ?_
              refine j_iadd rfl ?_
              refine j_iast (n := 7) rfl ((hLz.1.st hS).lt (by decide)) ((hLz.1.st hS).k (by decide) (by decide)) ((hLz.1.st hS).n (by decide) (by decide)) (by omega) (by omega) (by first | decide | omega) ?_
              refine j_vret rfl rfl ?_ rfl (Nat.le_refl _)
              have hQ : (Except.ok (z, _) : Except Int (PSt × LRec)) = R := hQ
              subst hQ
              refine ⟨rfl, ?_⟩
              rw [show mi N49 91 (6 : Int).toNat = l from e91]
              exact PQ.fin hLz hl0 hl1 (by omega)
          · skip
            refine j_aload_n rfl rfl ?_
            refine j_callV (ci := 12) rfl okX12_wrong c_X12_222 (ct_X12_wrong (hL45.1.st hS) hL45.2.1) rfl rfl ((hL45.1.st hS).lt (by decide)) ((hL45.1.st hS).k (by decide) (by decide)) (by decide) rfl (Nat.le_of_ble_eq_true rfl) (RB.call hRB (by omega) (by decide)) ⟨Nat.le_refl _, Nat.le_refl _⟩ ?_
            have hz0 : ((((b + kxt (chR m) b 33) + 1) + 1) + kxt (chR m) (((b + kxt (chR m) b 33) + 1) + 1) 61) = (((b + kxt (chR m) b 33) + 1) + 1) := by omega
            rw [hz0] at hL45
            rintro vq mq ⟨e1, e2⟩
            rw [if_neg (by rw [hL45.2.2.1.2.1]; decide), hL45.2.2.1.1] at e2
            rw [e1, e2]
            clear e1 e2
            simp only [Option.toList_some, Option.toList_none, List.cons_append, List.nil_append]
            have hB := hL45.bad (by omega) (by omega)
            refine j_vret rfl rfl ?_ rfl (Nat.le_refl _)
            exact ⟨rfl, by rw [if_neg (by omega)] at hQ; rw [← hQ]; exact ⟨hB.1, hB.2.1, hB.2.2⟩⟩
        · skip
          refine j_bipush rfl (by decide) ?_
          refine j_goto (tgt := 199) rfl (by decide) ?_
          refine j_iadd rfl ?_
          refine j_iast (n := 84) rfl ((hL12.1.st hS).lt (by decide)) ((hL12.1.st hS).k (by decide) (by decide)) ((hL12.1.st hS).n (by decide) (by decide)) (by omega) (by omega) (by first | decide | omega) ?_
          have hT : pTgt (chR m) (b + kxt (chR m) b 33) = .ok (((chR m ((b + kxt (chR m) b 33) + 1)) - 48) + 10) := by unfold pTgt; first | (rw [if_pos (by omega), if_pos (by omega)]; congr 1; omega) | (rw [if_neg (by omega), if_pos (by omega), if_pos (by omega)])
          unfold pRest at hQ
          rw [hT] at hQ
          dsimp only at hQ
          have hL51 := hL12.s94 (v := (((chR m ((b + kxt (chR m) b 33) + 1)) - 48) + 10)) (by omega)
          generalize si N11 94 (72 + l).toNat (((chR m ((b + kxt (chR m) b 33) + 1)) - 48) + 10) = N50 at hL51 ⊢
          refine j_aload_n rfl rfl ?_
          refine j_dup rfl (Nat.ne_of_beq_eq_false rfl) ?_
          refine j_getI rfl f_X12_210 rfl ((hL51.1.st hS).lt (by decide)) ((hL51.1.st hS).k (by decide) (by decide)) ?_
          have u203_4 := mi_rng N50 86 17
          refine j_iconst rfl ?_
          refine j_iadd rfl ?_
          refine j_putI rfl f_X12_210 rfl ((hL51.1.st hS).lt (by decide)) ((hL51.1.st hS).k (by decide) (by decide)) ?_
          have lt54 := lt_end (chR_end m) (a := ((b + kxt (chR m) b 33) + 1)) (by omega)
          rw [hL51.2.2.1.1]
          have hL53 := hL51.adv (d := (((b + kxt (chR m) b 33) + 1) + 1)) (by omega) (by omega)
          generalize si N50 86 17 (((b + kxt (chR m) b 33) + 1) + 1) = N52 at hL53 ⊢
          refine j_aload_n rfl rfl ?_
          refine j_bipush rfl (by decide) ?_
          refine j_callV (ci := 12) rfl okX12_isNext c_X12_261 (ct_X12_isNextU (hL53.1.st hS) hL53.2.1 hL53.2.2.1 (by omega) (by rw [show mi N52 86 16 = mi m 86 16 from hL53.1.cell (by decide) (by decide) (by omega) (by decide)]; omega) (by omega) (by decide)) rfl rfl ((hL53.1.st hS).lt (by decide)) ((hL53.1.st hS).k (by decide) (by decide)) (by decide) rfl (Nat.le_of_ble_eq_true rfl) (RB.call hRB (by omega) (by decide)) ⟨Nat.le_refl _, Nat.le_refl _⟩ ?_
          rintro vq N55 ⟨e1, qf, qi, qp⟩
          rw [hL53.1.ch] at e1 qp
          rw [e1]
          clear e1
          simp only [Option.toList_some, Option.toList_none, List.cons_append, List.nil_append]
          have hL56 := hL53.fp qf qi qp
          clear qf qi qp
          have kx57 := kxt_c (chR m) (((b + kxt (chR m) b 33) + 1) + 1) 61
          have kl58 := fun (z : chR m (((b + kxt (chR m) b 33) + 1) + 1) = 61) => lt_end (chR_end m) (a := (((b + kxt (chR m) b 33) + 1) + 1)) (by omega)
          have kb59 : ((((b + kxt (chR m) b 33) + 1) + 1) + kxt (chR m) (((b + kxt (chR m) b 33) + 1) + 1) 61) ≤ mi m 86 16 := by omega
          refine j_if_ne (tgt := 225) rfl (by decide) (by omega) (by omega) (fun hb217_4 => ?_) (fun hb217_4 => ?_)
          · skip
            rw [if_pos (by omega)] at hQ
            have hkp : ((((b + kxt (chR m) b 33) + 1) + 1) + kxt (chR m) (((b + kxt (chR m) b 33) + 1) + 1) 61) = (((b + kxt (chR m) b 33) + 1) + 1) + 1 := by omega
            rw [← hkp] at hQ
            refine j_aload_n rfl rfl ?_
            refine j_callV (ci := 12) rfl okX12_either c_X12_243 (ct_X12_eitherA G N55 ((((b + kxt (chR m) b 33) + 1) + 1) + kxt (chR m) (((b + kxt (chR m) b 33) + 1) + 1) 61) v (hL56.1.st hS) hL56.2.1 hL56.2.2.1 (by omega) (by rw [show mi N55 86 16 = mi m 86 16 from hL56.1.cell (by decide) (by decide) (by omega) (by decide)]; omega) (by omega)) rfl rfl ((hL56.1.st hS).lt (by decide)) ((hL56.1.st hS).k (by decide) (by decide)) (by decide) rfl (Nat.le_of_ble_eq_true rfl) (RB.call hRB (by omega) (by decide)) ⟨Nat.le_refl _, Nat.le_refl _⟩ ?_
            rintro vq N60 ⟨e1, hR⟩
            rw [e1]
            clear e1
            rw [hL56.1.ch] at hR
            dsimp only at hR
            simp only [Option.toList_some, Option.toList_none, List.nil_append]
            cases hres : pAll (chR m) true (((((b + kxt (chR m) b 33) + 1) + 1) + kxt (chR m) (((b + kxt (chR m) b 33) + 1) + 1) 61), v) with
            | error p =>
              rw [hres] at hR hQ
              obtain ⟨hFb, hIb, hX⟩ := hR
              have hX : PX N60 ((((b + kxt (chR m) b 33) + 1) + 1) + kxt (chR m) (((b + kxt (chR m) b 33) + 1) + 1) 61) v.length p := hX
              obtain ⟨x1, x2, x3, x4, x5, x6⟩ := hX
              have hFc := hL56.1.fp hFb
              have e16 : mi N60 86 16 = mi m 86 16 := hFc.cell (by decide) (by decide) (by omega) (by decide)
              have e91 : mi N60 91 6 = l := (hFb.cell (by decide) (by decide)).trans hL56.2.2.2.2
              refine j_aload_n rfl rfl ?_
              refine j_getR (q := 97) rfl f_X12_41 rfl ((hFc.st hS).lt (by decide)) ((hFc.st hS).k (by decide) (by decide)) ((hFc.st hS).r (by decide)) ?_
              refine j_iload_n rfl rfl ?_
              refine j_aload_n rfl rfl ?_
              refine j_getI rfl f_X12_216 rfl ((hFc.st hS).lt (by decide)) ((hFc.st hS).k (by decide) (by decide)) ?_
              have u235_7 := mi_rng N60 86 20
              refine j_iast (n := 84) rfl ((hFc.st hS).lt (by decide)) ((hFc.st hS).k (by decide) (by decide)) ((hFc.st hS).n (by decide) (by decide)) (by omega) (by omega) (by first | decide | omega) ?_
              have e91b : mi (si N60 97 (72 + l).toNat (mi N60 86 20)) 91 (6 : Int).toNat = l := (mi_si_ne _ _ (fun q => absurd q.1 (by decide))).trans e91
              refine j_aload_n rfl rfl ?_
              refine j_getR (q := 91) rfl f_X12_22 rfl ((hFc.st hS).lt (by decide)) ((hFc.st hS).k (by decide) (by decide)) ((hFc.st hS).r (by decide)) ?_
              refine j_bipush rfl (by decide) ?_
              refine j_dup2 rfl (Nat.ne_of_beq_eq_false rfl) (Nat.ne_of_beq_eq_false rfl) ?_
              refine j_iald (n := 7) rfl ((hFc.st hS).lt (by decide)) ((hFc.st hS).k (by decide) (by decide)) ((hFc.st hS).n (by decide) (by decide)) (by omega) (by omega) (by decide) ?_
              rw [show mi (si N60 97 (72 + l).toNat (mi N60 86 20)) 91 (6 : Int).toNat = mi N60 91 (6 : Int).toNat from by simp [mi_si, mi_fil, mi_cpr, mi_sl, mi_sr, ml_sl, ml_si, ml_sr, ml_fil, ml_cpr]]
              have u246_7 := hIb.a 91 (0) 12 (by decide) (6 : Int).toNat
              refine j_iconst rfl ?_
              refine j_iadd rfl ?_
              refine j_iast (n := 7) rfl ((hFc.st hS).lt (by decide)) ((hFc.st hS).k (by decide) (by decide)) ((hFc.st hS).n (by decide) (by decide)) (by omega) (by omega) (by first | decide | omega) ?_
              refine j_vret rfl rfl ?_ rfl (Nat.le_refl _)
              have hQ : (Except.error p : Except Int (PSt × LRec)) = R := hQ
              subst hQ
              refine ⟨rfl, ?_⟩
              rw [show mi N60 91 (6 : Int).toNat = l from e91]
              exact PQ.err hFc hIb hl0 hl1 x1 x2 (by omega)
            | ok z =>
              rw [hres] at hR hQ
              obtain ⟨hFb, hIb, hPb⟩ := hR
              have hPb : PS N60 z.1 0 z.2 := hPb
              have hLz := hL56.fp hFb hIb hPb
              obtain ⟨g1, g2, w2, g3, g4, g5, -⟩ := (hg ((((b + kxt (chR m) b 33) + 1) + 1) + kxt (chR m) (((b + kxt (chR m) b 33) + 1) + 1) 61) v (by omega) (by omega)).1 z hres
              have g7 : (z.2.length : Int) ≤ v.length + (z.1 - ((((b + kxt (chR m) b 33) + 1) + 1) + kxt (chR m) (((b + kxt (chR m) b 33) + 1) + 1) 61)) := by rw [g3, List.length_append]; omega
              have e91 := hLz.2.2.2.2
              refine j_aload_n rfl rfl ?_
              refine j_getR (q := 97) rfl f_X12_41 rfl ((hLz.1.st hS).lt (by decide)) ((hLz.1.st hS).k (by decide) (by decide)) ((hLz.1.st hS).r (by decide)) ?_
              refine j_iload_n rfl rfl ?_
              refine j_aload_n rfl rfl ?_
              refine j_getI rfl f_X12_216 rfl ((hLz.1.st hS).lt (by decide)) ((hLz.1.st hS).k (by decide) (by decide)) ?_
              have u235_8 := mi_rng N60 86 20
              refine j_iast (n := 84) rfl ((hLz.1.st hS).lt (by decide)) ((hLz.1.st hS).k (by decide) (by decide)) ((hLz.1.st hS).n (by decide) (by decide)) (by omega) (by omega) (by first | decide | omega) ?_
              rw [hLz.2.2.1.2.2.2.1]
              have e91b : mi (si N60 97 (72 + l).toNat (z.2.length : Int)) 91 (6 : Int).toNat = l := (mi_si_ne _ _ (fun q => absurd q.1 (by decide))).trans e91
              refine j_aload_n rfl rfl ?_
              refine j_getR (q := 91) rfl f_X12_22 rfl ((hLz.1.st hS).lt (by decide)) ((hLz.1.st hS).k (by decide) (by decide)) ((hLz.1.st hS).r (by decide)) ?_
              refine j_bipush rfl (by decide) ?_
              refine j_dup2 rfl (Nat.ne_of_beq_eq_false rfl) (Nat.ne_of_beq_eq_false rfl) ?_
              refine j_iald (n := 7) rfl ((hLz.1.st hS).lt (by decide)) ((hLz.1.st hS).k (by decide) (by decide)) ((hLz.1.st hS).n (by decide) (by decide)) (by omega) (by omega) (by decide) ?_
              rw [show mi (si N60 97 (72 + l).toNat (z.2.length : Int)) 91 (6 : Int).toNat = mi N60 91 (6 : Int).toNat from by simp [mi_si, mi_fil, mi_cpr, mi_sl, mi_sr, ml_sl, ml_si, ml_sr, ml_fil, ml_cpr]]
              have u246_8 := hLz.2.1.a 91 (0) 12 (by decide) (6 : Int).toNat
              refine j_iconst rfl ?_
              refine j_iadd rfl ?_
              refine j_iast (n := 7) rfl ((hLz.1.st hS).lt (by decide)) ((hLz.1.st hS).k (by decide) (by decide)) ((hLz.1.st hS).n (by decide) (by decide)) (by omega) (by omega) (by first | decide | omega) ?_
              refine j_vret rfl rfl ?_ rfl (Nat.le_refl _)
              have hQ : (Except.ok (z, _) : Except Int (PSt × LRec)) = R := hQ
              subst hQ
              refine ⟨rfl, ?_⟩
              rw [show mi N60 91 (6 : Int).toNat = l from e91]
              exact PQ.fin hLz hl0 hl1 (by omega)
          · skip
            refine j_aload_n rfl rfl ?_
            refine j_callV (ci := 12) rfl okX12_wrong c_X12_222 (ct_X12_wrong (hL56.1.st hS) hL56.2.1) rfl rfl ((hL56.1.st hS).lt (by decide)) ((hL56.1.st hS).k (by decide) (by decide)) (by decide) rfl (Nat.le_of_ble_eq_true rfl) (RB.call hRB (by omega) (by decide)) ⟨Nat.le_refl _, Nat.le_refl _⟩ ?_
            have hz0 : ((((b + kxt (chR m) b 33) + 1) + 1) + kxt (chR m) (((b + kxt (chR m) b 33) + 1) + 1) 61) = (((b + kxt (chR m) b 33) + 1) + 1) := by omega
            rw [hz0] at hL56
            rintro vq mq ⟨e1, e2⟩
            rw [if_neg (by rw [hL56.2.2.1.2.1]; decide), hL56.2.2.1.1] at e2
            rw [e1, e2]
            clear e1 e2
            simp only [Option.toList_some, Option.toList_none, List.cons_append, List.nil_append]
            have hB := hL56.bad (by omega) (by omega)
            refine j_vret rfl rfl ?_ rfl (Nat.le_refl _)
            exact ⟨rfl, by rw [if_neg (by omega)] at hQ; rw [← hQ]; exact ⟨hB.1, hB.2.1, hB.2.2⟩⟩
      · skip
        refine j_aload_n rfl rfl ?_
        refine j_callV (ci := 12) rfl okX12_wrong c_X12_222 (ct_X12_wrong (hL12.1.st hS) hL12.2.1) rfl rfl ((hL12.1.st hS).lt (by decide)) ((hL12.1.st hS).k (by decide) (by decide)) (by decide) rfl (Nat.le_of_ble_eq_true rfl) (RB.call hRB (by omega) (by decide)) ⟨Nat.le_refl _, Nat.le_refl _⟩ ?_
        rintro vq mq ⟨e1, e2⟩
        rw [if_neg (by rw [hL12.2.2.1.2.1]; decide), hL12.2.2.1.1] at e2
        rw [e1, e2]
        clear e1 e2
        simp only [Option.toList_some, Option.toList_none, List.cons_append, List.nil_append]
        have hB := hL12.bad (by omega) (by omega)
        refine j_vret rfl rfl ?_ rfl (Nat.le_refl _)
        exact ⟨rfl, by rw [← hQ]; unfold pRest pTgt; first | (rw [if_neg (by omega), if_neg (by omega)]; exact ⟨hB.1, hB.2.1, hB.2.2⟩) | (rw [if_pos (by omega), if_neg (by omega)]; exact ⟨hB.1, hB.2.1, hB.2.2⟩) | (rw [if_neg (by omega), if_pos (by omega), if_neg (by omega)]; exact ⟨hB.1, hB.2.1, hB.2.2⟩)⟩
  · skip
    refine j_iload_n rfl rfl ?_
    refine j_bipush rfl (by decide) ?_
    refine j_icmp_eq (tgt := 135) rfl (by decide) (by omega) (by omega) (by omega) (by omega) (fun hb127_1 => ?_) (fun hb127_1 => ?_)
    · skip
      refine j_aload_n rfl rfl ?_
      refine j_dup rfl (Nat.ne_of_beq_eq_false rfl) ?_
      refine j_getI rfl f_X12_210 rfl ((hL9.1.st hS).lt (by decide)) ((hL9.1.st hS).k (by decide) (by decide)) ?_
      have u137_2 := mi_rng N8 86 17
      refine j_iconst rfl ?_
      refine j_iadd rfl ?_
      refine j_putI rfl f_X12_210 rfl ((hL9.1.st hS).lt (by decide)) ((hL9.1.st hS).k (by decide) (by decide)) ?_
      have lt63 := lt_end (chR_end m) (a := (b + kxt (chR m) b 33)) (by omega)
      rw [hL9.2.2.1.1]
      have hL62 := hL9.adv (d := ((b + kxt (chR m) b 33) + 1)) (by omega) (by omega)
      generalize si N8 86 17 ((b + kxt (chR m) b 33) + 1) = N61 at hL62 ⊢
      refine j_aload_n rfl rfl ?_
      refine j_callV (ci := 12) rfl okX12_look c_X12_225 (ct_X12_look (hL62.1.st hS) hL62.2.1 (by rw [hL62.2.2.1.1]; omega) (by rw [hL62.2.2.1.1]; omega)) rfl rfl ((hL62.1.st hS).lt (by decide)) ((hL62.1.st hS).k (by decide) (by decide)) (by decide) rfl (Nat.le_of_ble_eq_true rfl) (RB.call hRB (by omega) (by decide)) ⟨Nat.le_refl _, Nat.le_refl _⟩ ?_
      rintro vq mq ⟨e1, e2⟩
      rw [hL62.1.ch, hL62.2.2.1.1] at e1
      rw [e1, e2]
      clear e1 e2
      simp only [Option.toList_some, Option.toList_none, List.cons_append, List.nil_append]
      have cr64 := chR_rng hI0 ((b + kxt (chR m) b 33) + 1)
      refine j_bipush rfl (by decide) ?_
      refine j_iload_n rfl rfl ?_
      refine j_bipush rfl (by decide) ?_
      refine j_icmp_ne (tgt := 162) rfl (by decide) (by omega) (by omega) (by omega) (by omega) (fun hb154_2 => ?_) (fun hb154_2 => ?_)
      · skip
        refine j_bipush rfl (by decide) ?_
        refine j_callS (As := [_, _, _]) rfl okX12_in c_X12_194 (ct_X12_in (by omega) (by omega) (by omega) (by omega) (by omega) (by omega)) rfl rfl (Nat.le_of_ble_eq_true rfl) (RB.call hRB (by omega) (by decide)) ⟨Nat.le_refl _, Nat.le_refl _⟩ ?_
        rintro vq mq ⟨e1, e2⟩
        rw [e1, e2]
        clear e1 e2
        simp only [Option.toList_some, Option.toList_none, List.cons_append, List.nil_append]
        refine j_bif_ne (tgt := 175) rfl (by decide) (fun hb167_3 => ?_) (fun hb167_3 => ?_)
        · skip
          refine j_aload_n rfl rfl ?_
          refine j_getR (q := 94) rfl f_X12_32 rfl ((hL62.1.st hS).lt (by decide)) ((hL62.1.st hS).k (by decide) (by decide)) ((hL62.1.st hS).r (by decide)) ?_
          refine j_iload_n rfl rfl ?_
          refine j_aload_n rfl rfl ?_
          refine j_callV (ci := 12) rfl okX12_look c_X12_225 (ct_X12_look (hL62.1.st hS) hL62.2.1 (by rw [hL62.2.2.1.1]; omega) (by rw [hL62.2.2.1.1]; omega)) rfl rfl ((hL62.1.st hS).lt (by decide)) ((hL62.1.st hS).k (by decide) (by decide)) (by decide) rfl (Nat.le_of_ble_eq_true rfl) (RB.call hRB (by omega) (by decide)) ⟨Nat.le_refl _, Nat.le_refl _⟩ ?_
          rintro vq mq ⟨e1, e2⟩
          rw [hL62.1.ch, hL62.2.2.1.1] at e1
          rw [e1, e2]
          clear e1 e2
          simp only [Option.toList_some, Option.toList_none, List.cons_append, List.nil_append]
          have cr65 := chR_rng hI0 ((b + kxt (chR m) b 33) + 1)
          refine j_bipush rfl (by decide) ?_
          refine j_isub rfl ?_
          refine j_iload_n rfl rfl ?_
          refine j_bipush rfl (by decide) ?_
          refine j_icmp_ne (tgt := 198) rfl (by decide) (by omega) (by omega) (by omega) (by omega) (fun hb190_3 => ?_) (fun hb190_3 => ?_)
          · skip
            refine j_iconst rfl ?_
            refine j_iadd rfl ?_
            refine j_iast (n := 84) rfl ((hL62.1.st hS).lt (by decide)) ((hL62.1.st hS).k (by decide) (by decide)) ((hL62.1.st hS).n (by decide) (by decide)) (by omega) (by omega) (by first | decide | omega) ?_
            have hT : pTgt (chR m) (b + kxt (chR m) b 33) = .ok (((chR m ((b + kxt (chR m) b 33) + 1)) - 48) + 0) := by unfold pTgt; first | (rw [if_pos (by omega), if_pos (by omega)]; congr 1; omega) | (rw [if_neg (by omega), if_pos (by omega), if_pos (by omega)])
            unfold pRest at hQ
            rw [hT] at hQ
            dsimp only at hQ
            have hL67 := hL62.s94 (v := (((chR m ((b + kxt (chR m) b 33) + 1)) - 48) + 0)) (by omega)
            generalize si N61 94 (72 + l).toNat (((chR m ((b + kxt (chR m) b 33) + 1)) - 48) + 0) = N66 at hL67 ⊢
            refine j_aload_n rfl rfl ?_
            refine j_dup rfl (Nat.ne_of_beq_eq_false rfl) ?_
            refine j_getI rfl f_X12_210 rfl ((hL67.1.st hS).lt (by decide)) ((hL67.1.st hS).k (by decide) (by decide)) ?_
            have u203_5 := mi_rng N66 86 17
            refine j_iconst rfl ?_
            refine j_iadd rfl ?_
            refine j_putI rfl f_X12_210 rfl ((hL67.1.st hS).lt (by decide)) ((hL67.1.st hS).k (by decide) (by decide)) ?_
            have lt70 := lt_end (chR_end m) (a := ((b + kxt (chR m) b 33) + 1)) (by omega)
            rw [hL67.2.2.1.1]
            have hL69 := hL67.adv (d := (((b + kxt (chR m) b 33) + 1) + 1)) (by omega) (by omega)
            generalize si N66 86 17 (((b + kxt (chR m) b 33) + 1) + 1) = N68 at hL69 ⊢
            refine j_aload_n rfl rfl ?_
            refine j_bipush rfl (by decide) ?_
            refine j_callV (ci := 12) rfl okX12_isNext c_X12_261 (ct_X12_isNextU (hL69.1.st hS) hL69.2.1 hL69.2.2.1 (by omega) (by rw [show mi N68 86 16 = mi m 86 16 from hL69.1.cell (by decide) (by decide) (by omega) (by decide)]; omega) (by omega) (by decide)) rfl rfl ((hL69.1.st hS).lt (by decide)) ((hL69.1.st hS).k (by decide) (by decide)) (by decide) rfl (Nat.le_of_ble_eq_true rfl) (RB.call hRB (by omega) (by decide)) ⟨Nat.le_refl _, Nat.le_refl _⟩ ?_
            rintro vq N71 ⟨e1, qf, qi, qp⟩
            rw [hL69.1.ch] at e1 qp
            rw [e1]
            clear e1
            simp only [Option.toList_some, Option.toList_none, List.cons_append, List.nil_append]
            have hL72 := hL69.fp qf qi qp
            clear qf qi qp
            have kx73 := kxt_c (chR m) (((b + kxt (chR m) b 33) + 1) + 1) 61
            have kl74 := fun (z : chR m (((b + kxt (chR m) b 33) + 1) + 1) = 61) => lt_end (chR_end m) (a := (((b + kxt (chR m) b 33) + 1) + 1)) (by omega)
            have kb75 : ((((b + kxt (chR m) b 33) + 1) + 1) + kxt (chR m) (((b + kxt (chR m) b 33) + 1) + 1) 61) ≤ mi m 86 16 := by omega
            refine j_if_ne (tgt := 225) rfl (by decide) (by omega) (by omega) (fun hb217_5 => ?_) (fun hb217_5 => ?_)
            · skip
              rw [if_pos (by omega)] at hQ
              have hkp : ((((b + kxt (chR m) b 33) + 1) + 1) + kxt (chR m) (((b + kxt (chR m) b 33) + 1) + 1) 61) = (((b + kxt (chR m) b 33) + 1) + 1) + 1 := by omega
              rw [← hkp] at hQ
              refine j_aload_n rfl rfl ?_
              refine j_callV (ci := 12) rfl okX12_either c_X12_243 (ct_X12_eitherA G N71 ((((b + kxt (chR m) b 33) + 1) + 1) + kxt (chR m) (((b + kxt (chR m) b 33) + 1) + 1) 61) v (hL72.1.st hS) hL72.2.1 hL72.2.2.1 (by omega) (by rw [show mi N71 86 16 = mi m 86 16 from hL72.1.cell (by decide) (by decide) (by omega) (by decide)]; omega) (by omega)) rfl rfl ((hL72.1.st hS).lt (by decide)) ((hL72.1.st hS).k (by decide) (by decide)) (by decide) rfl (Nat.le_of_ble_eq_true rfl) (RB.call hRB (by omega) (by decide)) ⟨Nat.le_refl _, Nat.le_refl _⟩ ?_
              rintro vq N76 ⟨e1, hR⟩
              rw [e1]
              clear e1
              rw [hL72.1.ch] at hR
              dsimp only at hR
              simp only [Option.toList_some, Option.toList_none, List.nil_append]
              cases hres : pAll (chR m) true (((((b + kxt (chR m) b 33) + 1) + 1) + kxt (chR m) (((b + kxt (chR m) b 33) + 1) + 1) 61), v) with
              | error p =>
                rw [hres] at hR hQ
                obtain ⟨hFb, hIb, hX⟩ := hR
                have hX : PX N76 ((((b + kxt (chR m) b 33) + 1) + 1) + kxt (chR m) (((b + kxt (chR m) b 33) + 1) + 1) 61) v.length p := hX
                obtain ⟨x1, x2, x3, x4, x5, x6⟩ := hX
                have hFc := hL72.1.fp hFb
                have e16 : mi N76 86 16 = mi m 86 16 := hFc.cell (by decide) (by decide) (by omega) (by decide)
                have e91 : mi N76 91 6 = l := (hFb.cell (by decide) (by decide)).trans hL72.2.2.2.2
                refine j_aload_n rfl rfl ?_
                refine j_getR (q := 97) rfl f_X12_41 rfl ((hFc.st hS).lt (by decide)) ((hFc.st hS).k (by decide) (by decide)) ((hFc.st hS).r (by decide)) ?_
                refine j_iload_n rfl rfl ?_
                refine j_aload_n rfl rfl ?_
                refine j_getI rfl f_X12_216 rfl ((hFc.st hS).lt (by decide)) ((hFc.st hS).k (by decide) (by decide)) ?_
                have u235_9 := mi_rng N76 86 20
                refine j_iast (n := 84) rfl ((hFc.st hS).lt (by decide)) ((hFc.st hS).k (by decide) (by decide)) ((hFc.st hS).n (by decide) (by decide)) (by omega) (by omega) (by first | decide | omega) ?_
                have e91b : mi (si N76 97 (72 + l).toNat (mi N76 86 20)) 91 (6 : Int).toNat = l := (mi_si_ne _ _ (fun q => absurd q.1 (by decide))).trans e91
                refine j_aload_n rfl rfl ?_
                refine j_getR (q := 91) rfl f_X12_22 rfl ((hFc.st hS).lt (by decide)) ((hFc.st hS).k (by decide) (by decide)) ((hFc.st hS).r (by decide)) ?_
                refine j_bipush rfl (by decide) ?_
                refine j_dup2 rfl (Nat.ne_of_beq_eq_false rfl) (Nat.ne_of_beq_eq_false rfl) ?_
                refine j_iald (n := 7) rfl ((hFc.st hS).lt (by decide)) ((hFc.st hS).k (by decide) (by decide)) ((hFc.st hS).n (by decide) (by decide)) (by omega) (by omega) (by decide) ?_
                rw [show mi (si N76 97 (72 + l).toNat (mi N76 86 20)) 91 (6 : Int).toNat = mi N76 91 (6 : Int).toNat from by simp [mi_si, mi_fil, mi_cpr, mi_sl, mi_sr, ml_sl, ml_si, ml_sr, ml_fil, ml_cpr]]
                have u246_9 := hIb.a 91 (0) 12 (by decide) (6 : Int).toNat
                refine j_iconst rfl ?_
                refine j_iadd rfl ?_
                refine j_iast (n := 7) rfl ((hFc.st hS).lt (by decide)) ((hFc.st hS).k (by decide) (by decide)) ((hFc.st hS).n (by decide) (by decide)) (by omega) (by omega) (by first | decide | omega) ?_
                refine j_vret rfl rfl ?_ rfl (Nat.le_refl _)
                have hQ : (Except.error p : Except Int (PSt × LRec)) = R := hQ
                subst hQ
                refine ⟨rfl, ?_⟩
                rw [show mi N76 91 (6 : Int).toNat = l from e91]
                exact PQ.err hFc hIb hl0 hl1 x1 x2 (by omega)
              | ok z =>
                rw [hres] at hR hQ
                obtain ⟨hFb, hIb, hPb⟩ := hR
                have hPb : PS N76 z.1 0 z.2 := hPb
                have hLz := hL72.fp hFb hIb hPb
                obtain ⟨g1, g2, w2, g3, g4, g5, -⟩ := (hg ((((b + kxt (chR m) b 33) + 1) + 1) + kxt (chR m) (((b + kxt (chR m) b 33) + 1) + 1) 61) v (by omega) (by omega)).1 z hres
                have g7 : (z.2.length : Int) ≤ v.length + (z.1 - ((((b + kxt (chR m) b 33) + 1) + 1) + kxt (chR m) (((b + kxt (chR m) b 33) + 1) + 1) 61)) := by rw [g3, List.length_append]; omega
                have e91 := hLz.2.2.2.2
                refine j_aload_n rfl rfl ?_
                refine j_getR (q := 97) rfl f_X12_41 rfl ((hLz.1.st hS).lt (by decide)) ((hLz.1.st hS).k (by decide) (by decide)) ((hLz.1.st hS).r (by decide)) ?_
                refine j_iload_n rfl rfl ?_
                refine j_aload_n rfl rfl ?_
                refine j_getI rfl f_X12_216 rfl ((hLz.1.st hS).lt (by decide)) ((hLz.1.st hS).k (by decide) (by decide)) ?_
                have u235_10 := mi_rng N76 86 20
                refine j_iast (n := 84) rfl ((hLz.1.st hS).lt (by decide)) ((hLz.1.st hS).k (by decide) (by decide)) ((hLz.1.st hS).n (by decide) (by decide)) (by omega) (by omega) (by first | decide | omega) ?_
                rw [hLz.2.2.1.2.2.2.1]
                have e91b : mi (si N76 97 (72 + l).toNat (z.2.length : Int)) 91 (6 : Int).toNat = l := (mi_si_ne _ _ (fun q => absurd q.1 (by decide))).trans e91
                refine j_aload_n rfl rfl ?_
                refine j_getR (q := 91) rfl f_X12_22 rfl ((hLz.1.st hS).lt (by decide)) ((hLz.1.st hS).k (by decide) (by decide)) ((hLz.1.st hS).r (by decide)) ?_
                refine j_bipush rfl (by decide) ?_
                refine j_dup2 rfl (Nat.ne_of_beq_eq_false rfl) (Nat.ne_of_beq_eq_false rfl) ?_
                refine j_iald (n := 7) rfl ((hLz.1.st hS).lt (by decide)) ((hLz.1.st hS).k (by decide) (by decide)) ((hLz.1.st hS).n (by decide) (by decide)) (by omega) (by omega) (by decide) ?_
                rw [show mi (si N76 97 (72 + l).toNat (z.2.length : Int)) 91 (6 : Int).toNat = mi N76 91 (6 : Int).toNat from by simp [mi_si, mi_fil, mi_cpr, mi_sl, mi_sr, ml_sl, ml_si, ml_sr, ml_fil, ml_cpr]]
                have u246_10 := hLz.2.1.a 91 (0) 12 (by decide) (6 : Int).toNat
                refine j_iconst rfl ?_
                refine j_iadd rfl ?_
                refine j_iast (n := 7) rfl ((hLz.1.st hS).lt (by decide)) ((hLz.1.st hS).k (by decide) (by decide)) ((hLz.1.st hS).n (by decide) (by decide)) (by omega) (by omega) (by first | decide | omega) ?_
                refine j_vret rfl rfl ?_ rfl (Nat.le_refl _)
                have hQ : (Except.ok (z, _) : Except Int (PSt × LRec)) = R := hQ
                subst hQ
                refine ⟨rfl, ?_⟩
                rw [show mi N76 91 (6 : Int).toNat = l from e91]
                exact PQ.fin hLz hl0 hl1 (by omega)
            · skip
              refine j_aload_n rfl rfl ?_
              refine j_callV (ci := 12) rfl okX12_wrong c_X12_222 (ct_X12_wrong (hL72.1.st hS) hL72.2.1) rfl rfl ((hL72.1.st hS).lt (by decide)) ((hL72.1.st hS).k (by decide) (by decide)) (by decide) rfl (Nat.le_of_ble_eq_true rfl) (RB.call hRB (by omega) (by decide)) ⟨Nat.le_refl _, Nat.le_refl _⟩ ?_
              have hz0 : ((((b + kxt (chR m) b 33) + 1) + 1) + kxt (chR m) (((b + kxt (chR m) b 33) + 1) + 1) 61) = (((b + kxt (chR m) b 33) + 1) + 1) := by omega
              rw [hz0] at hL72
              rintro vq mq ⟨e1, e2⟩
              rw [if_neg (by rw [hL72.2.2.1.2.1]; decide), hL72.2.2.1.1] at e2
              rw [e1, e2]
              clear e1 e2
              simp only [Option.toList_some, Option.toList_none, List.cons_append, List.nil_append]
              have hB := hL72.bad (by omega) (by omega)
              refine j_vret rfl rfl ?_ rfl (Nat.le_refl _)
              exact ⟨rfl, by rw [if_neg (by omega)] at hQ; rw [← hQ]; exact ⟨hB.1, hB.2.1, hB.2.2⟩⟩
          · skip
            refine j_bipush rfl (by decide) ?_
            refine j_goto (tgt := 199) rfl (by decide) ?_
            refine j_iadd rfl ?_
            refine j_iast (n := 84) rfl ((hL62.1.st hS).lt (by decide)) ((hL62.1.st hS).k (by decide) (by decide)) ((hL62.1.st hS).n (by decide) (by decide)) (by omega) (by omega) (by first | decide | omega) ?_
            have hT : pTgt (chR m) (b + kxt (chR m) b 33) = .ok (((chR m ((b + kxt (chR m) b 33) + 1)) - 48) + 10) := by unfold pTgt; first | (rw [if_pos (by omega), if_pos (by omega)]; congr 1; omega) | (rw [if_neg (by omega), if_pos (by omega), if_pos (by omega)])
            unfold pRest at hQ
            rw [hT] at hQ
            dsimp only at hQ
            have hL78 := hL62.s94 (v := (((chR m ((b + kxt (chR m) b 33) + 1)) - 48) + 10)) (by omega)
            generalize si N61 94 (72 + l).toNat (((chR m ((b + kxt (chR m) b 33) + 1)) - 48) + 10) = N77 at hL78 ⊢
            refine j_aload_n rfl rfl ?_
            refine j_dup rfl (Nat.ne_of_beq_eq_false rfl) ?_
            refine j_getI rfl f_X12_210 rfl ((hL78.1.st hS).lt (by decide)) ((hL78.1.st hS).k (by decide) (by decide)) ?_
            have u203_6 := mi_rng N77 86 17
            refine j_iconst rfl ?_
            refine j_iadd rfl ?_
            refine j_putI rfl f_X12_210 rfl ((hL78.1.st hS).lt (by decide)) ((hL78.1.st hS).k (by decide) (by decide)) ?_
            have lt81 := lt_end (chR_end m) (a := ((b + kxt (chR m) b 33) + 1)) (by omega)
            rw [hL78.2.2.1.1]
            have hL80 := hL78.adv (d := (((b + kxt (chR m) b 33) + 1) + 1)) (by omega) (by omega)
            generalize si N77 86 17 (((b + kxt (chR m) b 33) + 1) + 1) = N79 at hL80 ⊢
            refine j_aload_n rfl rfl ?_
            refine j_bipush rfl (by decide) ?_
            refine j_callV (ci := 12) rfl okX12_isNext c_X12_261 (ct_X12_isNextU (hL80.1.st hS) hL80.2.1 hL80.2.2.1 (by omega) (by rw [show mi N79 86 16 = mi m 86 16 from hL80.1.cell (by decide) (by decide) (by omega) (by decide)]; omega) (by omega) (by decide)) rfl rfl ((hL80.1.st hS).lt (by decide)) ((hL80.1.st hS).k (by decide) (by decide)) (by decide) rfl (Nat.le_of_ble_eq_true rfl) (RB.call hRB (by omega) (by decide)) ⟨Nat.le_refl _, Nat.le_refl _⟩ ?_
            rintro vq N82 ⟨e1, qf, qi, qp⟩
            rw [hL80.1.ch] at e1 qp
            rw [e1]
            clear e1
            simp only [Option.toList_some, Option.toList_none, List.cons_append, List.nil_append]
            have hL83 := hL80.fp qf qi qp
            clear qf qi qp
            have kx84 := kxt_c (chR m) (((b + kxt (chR m) b 33) + 1) + 1) 61
            have kl85 := fun (z : chR m (((b + kxt (chR m) b 33) + 1) + 1) = 61) => lt_end (chR_end m) (a := (((b + kxt (chR m) b 33) + 1) + 1)) (by omega)
            have kb86 : ((((b + kxt (chR m) b 33) + 1) + 1) + kxt (chR m) (((b + kxt (chR m) b 33) + 1) + 1) 61) ≤ mi m 86 16 := by omega
            refine j_if_ne (tgt := 225) rfl (by decide) (by omega) (by omega) (fun hb217_6 => ?_) (fun hb217_6 => ?_)
            · skip
              rw [if_pos (by omega)] at hQ
              have hkp : ((((b + kxt (chR m) b 33) + 1) + 1) + kxt (chR m) (((b + kxt (chR m) b 33) + 1) + 1) 61) = (((b + kxt (chR m) b 33) + 1) + 1) + 1 := by omega
              rw [← hkp] at hQ
              refine j_aload_n rfl rfl ?_
              refine j_callV (ci := 12) rfl okX12_either c_X12_243 (ct_X12_eitherA G N82 ((((b + kxt (chR m) b 33) + 1) + 1) + kxt (chR m) (((b + kxt (chR m) b 33) + 1) + 1) 61) v (hL83.1.st hS) hL83.2.1 hL83.2.2.1 (by omega) (by rw [show mi N82 86 16 = mi m 86 16 from hL83.1.cell (by decide) (by decide) (by omega) (by decide)]; omega) (by omega)) rfl rfl ((hL83.1.st hS).lt (by decide)) ((hL83.1.st hS).k (by decide) (by decide)) (by decide) rfl (Nat.le_of_ble_eq_true rfl) (RB.call hRB (by omega) (by decide)) ⟨Nat.le_refl _, Nat.le_refl _⟩ ?_
              rintro vq N87 ⟨e1, hR⟩
              rw [e1]
              clear e1
              rw [hL83.1.ch] at hR
              dsimp only at hR
              simp only [Option.toList_some, Option.toList_none, List.nil_append]
              cases hres : pAll (chR m) true (((((b + kxt (chR m) b 33) + 1) + 1) + kxt (chR m) (((b + kxt (chR m) b 33) + 1) + 1) 61), v) with
              | error p =>
                rw [hres] at hR hQ
                obtain ⟨hFb, hIb, hX⟩ := hR
                have hX : PX N87 ((((b + kxt (chR m) b 33) + 1) + 1) + kxt (chR m) (((b + kxt (chR m) b 33) + 1) + 1) 61) v.length p := hX
                obtain ⟨x1, x2, x3, x4, x5, x6⟩ := hX
                have hFc := hL83.1.fp hFb
                have e16 : mi N87 86 16 = mi m 86 16 := hFc.cell (by decide) (by decide) (by omega) (by decide)
                have e91 : mi N87 91 6 = l := (hFb.cell (by decide) (by decide)).trans hL83.2.2.2.2
                refine j_aload_n rfl rfl ?_
                refine j_getR (q := 97) rfl f_X12_41 rfl ((hFc.st hS).lt (by decide)) ((hFc.st hS).k (by decide) (by decide)) ((hFc.st hS).r (by decide)) ?_
                refine j_iload_n rfl rfl ?_
                refine j_aload_n rfl rfl ?_
                refine j_getI rfl f_X12_216 rfl ((hFc.st hS).lt (by decide)) ((hFc.st hS).k (by decide) (by decide)) ?_
                have u235_11 := mi_rng N87 86 20
                refine j_iast (n := 84) rfl ((hFc.st hS).lt (by decide)) ((hFc.st hS).k (by decide) (by decide)) ((hFc.st hS).n (by decide) (by decide)) (by omega) (by omega) (by first | decide | omega) ?_
                have e91b : mi (si N87 97 (72 + l).toNat (mi N87 86 20)) 91 (6 : Int).toNat = l := (mi_si_ne _ _ (fun q => absurd q.1 (by decide))).trans e91
                refine j_aload_n rfl rfl ?_
                refine j_getR (q := 91) rfl f_X12_22 rfl ((hFc.st hS).lt (by decide)) ((hFc.st hS).k (by decide) (by decide)) ((hFc.st hS).r (by decide)) ?_
                refine j_bipush rfl (by decide) ?_
                refine j_dup2 rfl (Nat.ne_of_beq_eq_false rfl) (Nat.ne_of_beq_eq_false rfl) ?_
                refine j_iald (n := 7) rfl ((hFc.st hS).lt (by decide)) ((hFc.st hS).k (by decide) (by decide)) ((hFc.st hS).n (by decide) (by decide)) (by omega) (by omega) (by decide) ?_
                rw [show mi (si N87 97 (72 + l).toNat (mi N87 86 20)) 91 (6 : Int).toNat = mi N87 91 (6 : Int).toNat from by simp [mi_si, mi_fil, mi_cpr, mi_sl, mi_sr, ml_sl, ml_si, ml_sr, ml_fil, ml_cpr]]
                have u246_11 := hIb.a 91 (0) 12 (by decide) (6 : Int).toNat
                refine j_iconst rfl ?_
                refine j_iadd rfl ?_
                refine j_iast (n := 7) rfl ((hFc.st hS).lt (by decide)) ((hFc.st hS).k (by decide) (by decide)) ((hFc.st hS).n (by decide) (by decide)) (by omega) (by omega) (by first | decide | omega) ?_
                refine j_vret rfl rfl ?_ rfl (Nat.le_refl _)
                have hQ : (Except.error p : Except Int (PSt × LRec)) = R := hQ
                subst hQ
                refine ⟨rfl, ?_⟩
                rw [show mi N87 91 (6 : Int).toNat = l from e91]
                exact PQ.err hFc hIb hl0 hl1 x1 x2 (by omega)
              | ok z =>
                rw [hres] at hR hQ
                obtain ⟨hFb, hIb, hPb⟩ := hR
                have hPb : PS N87 z.1 0 z.2 := hPb
                have hLz := hL83.fp hFb hIb hPb
                obtain ⟨g1, g2, w2, g3, g4, g5, -⟩ := (hg ((((b + kxt (chR m) b 33) + 1) + 1) + kxt (chR m) (((b + kxt (chR m) b 33) + 1) + 1) 61) v (by omega) (by omega)).1 z hres
                have g7 : (z.2.length : Int) ≤ v.length + (z.1 - ((((b + kxt (chR m) b 33) + 1) + 1) + kxt (chR m) (((b + kxt (chR m) b 33) + 1) + 1) 61)) := by rw [g3, List.length_append]; omega
                have e91 := hLz.2.2.2.2
                refine j_aload_n rfl rfl ?_
                refine j_getR (q := 97) rfl f_X12_41 rfl ((hLz.1.st hS).lt (by decide)) ((hLz.1.st hS).k (by decide) (by decide)) ((hLz.1.st hS).r (by decide)) ?_
                refine j_iload_n rfl rfl ?_
                refine j_aload_n rfl rfl ?_
                refine j_getI rfl f_X12_216 rfl ((hLz.1.st hS).lt (by decide)) ((hLz.1.st hS).k (by decide) (by decide)) ?_
                have u235_12 := mi_rng N87 86 20
                refine j_iast (n := 84) rfl ((hLz.1.st hS).lt (by decide)) ((hLz.1.st hS).k (by decide) (by decide)) ((hLz.1.st hS).n (by decide) (by decide)) (by omega) (by omega) (by first | decide | omega) ?_
                rw [hLz.2.2.1.2.2.2.1]
                have e91b : mi (si N87 97 (72 + l).toNat (z.2.length : Int)) 91 (6 : Int).toNat = l := (mi_si_ne _ _ (fun q => absurd q.1 (by decide))).trans e91
                refine j_aload_n rfl rfl ?_
                refine j_getR (q := 91) rfl f_X12_22 rfl ((hLz.1.st hS).lt (by decide)) ((hLz.1.st hS).k (by decide) (by decide)) ((hLz.1.st hS).r (by decide)) ?_
                refine j_bipush rfl (by decide) ?_
                refine j_dup2 rfl (Nat.ne_of_beq_eq_false rfl) (Nat.ne_of_beq_eq_false rfl) ?_
                refine j_iald (n := 7) rfl ((hLz.1.st hS).lt (by decide)) ((hLz.1.st hS).k (by decide) (by decide)) ((hLz.1.st hS).n (by decide) (by decide)) (by omega) (by omega) (by decide) ?_
                rw [show mi (si N87 97 (72 + l).toNat (z.2.length : Int)) 91 (6 : Int).toNat = mi N87 91 (6 : Int).toNat from by simp [mi_si, mi_fil, mi_cpr, mi_sl, mi_sr, ml_sl, ml_si, ml_sr, ml_fil, ml_cpr]]
                have u246_12 := hLz.2.1.a 91 (0) 12 (by decide) (6 : Int).toNat
                refine j_iconst rfl ?_
                refine j_iadd rfl ?_
                refine j_iast (n := 7) rfl ((hLz.1.st hS).lt (by decide)) ((hLz.1.st hS).k (by decide) (by decide)) ((hLz.1.st hS).n (by decide) (by decide)) (by omega) (by omega) (by first | decide | omega) ?_
                refine j_vret rfl rfl ?_ rfl (Nat.le_refl _)
                have hQ : (Except.ok (z, _) : Except Int (PSt × LRec)) = R := hQ
                subst hQ
                refine ⟨rfl, ?_⟩
                rw [show mi N87 91 (6 : Int).toNat = l from e91]
                exact PQ.fin hLz hl0 hl1 (by omega)
            · skip
              refine j_aload_n rfl rfl ?_
              refine j_callV (ci := 12) rfl okX12_wrong c_X12_222 (ct_X12_wrong (hL83.1.st hS) hL83.2.1) rfl rfl ((hL83.1.st hS).lt (by decide)) ((hL83.1.st hS).k (by decide) (by decide)) (by decide) rfl (Nat.le_of_ble_eq_true rfl) (RB.call hRB (by omega) (by decide)) ⟨Nat.le_refl _, Nat.le_refl _⟩ ?_
              have hz0 : ((((b + kxt (chR m) b 33) + 1) + 1) + kxt (chR m) (((b + kxt (chR m) b 33) + 1) + 1) 61) = (((b + kxt (chR m) b 33) + 1) + 1) := by omega
              rw [hz0] at hL83
              rintro vq mq ⟨e1, e2⟩
              rw [if_neg (by rw [hL83.2.2.1.2.1]; decide), hL83.2.2.1.1] at e2
              rw [e1, e2]
              clear e1 e2
              simp only [Option.toList_some, Option.toList_none, List.cons_append, List.nil_append]
              have hB := hL83.bad (by omega) (by omega)
              refine j_vret rfl rfl ?_ rfl (Nat.le_refl _)
              exact ⟨rfl, by rw [if_neg (by omega)] at hQ; rw [← hQ]; exact ⟨hB.1, hB.2.1, hB.2.2⟩⟩
        · skip
          refine j_aload_n rfl rfl ?_
          refine j_callV (ci := 12) rfl okX12_wrong c_X12_222 (ct_X12_wrong (hL62.1.st hS) hL62.2.1) rfl rfl ((hL62.1.st hS).lt (by decide)) ((hL62.1.st hS).k (by decide) (by decide)) (by decide) rfl (Nat.le_of_ble_eq_true rfl) (RB.call hRB (by omega) (by decide)) ⟨Nat.le_refl _, Nat.le_refl _⟩ ?_
          rintro vq mq ⟨e1, e2⟩
          rw [if_neg (by rw [hL62.2.2.1.2.1]; decide), hL62.2.2.1.1] at e2
          rw [e1, e2]
          clear e1 e2
          simp only [Option.toList_some, Option.toList_none, List.cons_append, List.nil_append]
          have hB := hL62.bad (by omega) (by omega)
          refine j_vret rfl rfl ?_ rfl (Nat.le_refl _)
          exact ⟨rfl, by rw [← hQ]; unfold pRest pTgt; first | (rw [if_neg (by omega), if_neg (by omega)]; exact ⟨hB.1, hB.2.1, hB.2.2⟩) | (rw [if_pos (by omega), if_neg (by omega)]; exact ⟨hB.1, hB.2.1, hB.2.2⟩) | (rw [if_neg (by omega), if_pos (by omega), if_neg (by omega)]; exact ⟨hB.1, hB.2.1, hB.2.2⟩)⟩
      · skip
        refine j_bipush rfl (by decide) ?_
        refine j_goto (tgt := 164) rfl (by decide) ?_
        refine j_callS (As := [_, _, _]) rfl okX12_in c_X12_194 (ct_X12_in (by omega) (by omega) (by omega) (by omega) (by omega) (by omega)) rfl rfl (Nat.le_of_ble_eq_true rfl) (RB.call hRB (by omega) (by decide)) ⟨Nat.le_refl _, Nat.le_refl _⟩ ?_
        rintro vq mq ⟨e1, e2⟩
        rw [e1, e2]
        clear e1 e2
        simp only [Option.toList_some, Option.toList_none, List.cons_append, List.nil_append]
        refine j_bif_ne (tgt := 175) rfl (by decide) (fun hb167_4 => ?_) (fun hb167_4 => ?_)
        · skip
          refine j_aload_n rfl rfl ?_
          refine j_getR (q := 94) rfl f_X12_32 rfl ((hL62.1.st hS).lt (by decide)) ((hL62.1.st hS).k (by decide) (by decide)) ((hL62.1.st hS).r (by decide)) ?_
          refine j_iload_n rfl rfl ?_
          refine j_aload_n rfl rfl ?_
          refine j_callV (ci := 12) rfl okX12_look c_X12_225 (ct_X12_look (hL62.1.st hS) hL62.2.1 (by rw [hL62.2.2.1.1]; omega) (by rw [hL62.2.2.1.1]; omega)) rfl rfl ((hL62.1.st hS).lt (by decide)) ((hL62.1.st hS).k (by decide) (by decide)) (by decide) rfl (Nat.le_of_ble_eq_true rfl) (RB.call hRB (by omega) (by decide)) ⟨Nat.le_refl _, Nat.le_refl _⟩ ?_
          rintro vq mq ⟨e1, e2⟩
          rw [hL62.1.ch, hL62.2.2.1.1] at e1
          rw [e1, e2]
          clear e1 e2
          simp only [Option.toList_some, Option.toList_none, List.cons_append, List.nil_append]
          have cr88 := chR_rng hI0 ((b + kxt (chR m) b 33) + 1)
          refine j_bipush rfl (by decide) ?_
          refine j_isub rfl ?_
          refine j_iload_n rfl rfl ?_
          refine j_bipush rfl (by decide) ?_
          refine j_icmp_ne (tgt := 198) rfl (by decide) (by omega) (by omega) (by omega) (by omega) (fun hb190_4 => ?_) (fun hb190_4 => ?_)
          · skip
            refine j_iconst rfl ?_
            refine j_iadd rfl ?_
            refine j_iast (n := 84) rfl ((hL62.1.st hS).lt (by decide)) ((hL62.1.st hS).k (by decide) (by decide)) ((hL62.1.st hS).n (by decide) (by decide)) (by omega) (by omega) (by first | decide | omega) ?_
            have hT : pTgt (chR m) (b + kxt (chR m) b 33) = .ok (((chR m ((b + kxt (chR m) b 33) + 1)) - 48) + 0) := by unfold pTgt; first | (rw [if_pos (by omega), if_pos (by omega)]; congr 1; omega) | (rw [if_neg (by omega), if_pos (by omega), if_pos (by omega)])
            unfold pRest at hQ
            rw [hT] at hQ
            dsimp only at hQ
            have hL90 := hL62.s94 (v := (((chR m ((b + kxt (chR m) b 33) + 1)) - 48) + 0)) (by omega)
            generalize si N61 94 (72 + l).toNat (((chR m ((b + kxt (chR m) b 33) + 1)) - 48) + 0) = N89 at hL90 ⊢
            refine j_aload_n rfl rfl ?_
            refine j_dup rfl (Nat.ne_of_beq_eq_false rfl) ?_
            refine j_getI rfl f_X12_210 rfl ((hL90.1.st hS).lt (by decide)) ((hL90.1.st hS).k (by decide) (by decide)) ?_
            have u203_7 := mi_rng N89 86 17
            refine j_iconst rfl ?_
            refine j_iadd rfl ?_
            refine j_putI rfl f_X12_210 rfl ((hL90.1.st hS).lt (by decide)) ((hL90.1.st hS).k (by decide) (by decide)) ?_
            have lt93 := lt_end (chR_end m) (a := ((b + kxt (chR m) b 33) + 1)) (by omega)
            rw [hL90.2.2.1.1]
            have hL92 := hL90.adv (d := (((b + kxt (chR m) b 33) + 1) + 1)) (by omega) (by omega)
            generalize si N89 86 17 (((b + kxt (chR m) b 33) + 1) + 1) = N91 at hL92 ⊢
            refine j_aload_n rfl rfl ?_
            refine j_bipush rfl (by decide) ?_
            refine j_callV (ci := 12) rfl okX12_isNext c_X12_261 (ct_X12_isNextU (hL92.1.st hS) hL92.2.1 hL92.2.2.1 (by omega) (by rw [show mi N91 86 16 = mi m 86 16 from hL92.1.cell (by decide) (by decide) (by omega) (by decide)]; omega) (by omega) (by decide)) rfl rfl ((hL92.1.st hS).lt (by decide)) ((hL92.1.st hS).k (by decide) (by decide)) (by decide) rfl (Nat.le_of_ble_eq_true rfl) (RB.call hRB (by omega) (by decide)) ⟨Nat.le_refl _, Nat.le_refl _⟩ ?_
            rintro vq N94 ⟨e1, qf, qi, qp⟩
            rw [hL92.1.ch] at e1 qp
            rw [e1]
            clear e1
            simp only [Option.toList_some, Option.toList_none, List.cons_append, List.nil_append]
            have hL95 := hL92.fp qf qi qp
            clear qf qi qp
            have kx96 := kxt_c (chR m) (((b + kxt (chR m) b 33) + 1) + 1) 61
            have kl97 := fun (z : chR m (((b + kxt (chR m) b 33) + 1) + 1) = 61) => lt_end (chR_end m) (a := (((b + kxt (chR m) b 33) + 1) + 1)) (by omega)
            have kb98 : ((((b + kxt (chR m) b 33) + 1) + 1) + kxt (chR m) (((b + kxt (chR m) b 33) + 1) + 1) 61) ≤ mi m 86 16 := by omega
            refine j_if_ne (tgt := 225) rfl (by decide) (by omega) (by omega) (fun hb217_7 => ?_) (fun hb217_7 => ?_)
            · skip
              rw [if_pos (by omega)] at hQ
              have hkp : ((((b + kxt (chR m) b 33) + 1) + 1) + kxt (chR m) (((b + kxt (chR m) b 33) + 1) + 1) 61) = (((b + kxt (chR m) b 33) + 1) + 1) + 1 := by omega
              rw [← hkp] at hQ
              refine j_aload_n rfl rfl ?_
              refine j_callV (ci := 12) rfl okX12_either c_X12_243 (ct_X12_eitherA G N94 ((((b + kxt (chR m) b 33) + 1) + 1) + kxt (chR m) (((b + kxt (chR m) b 33) + 1) + 1) 61) v (hL95.1.st hS) hL95.2.1 hL95.2.2.1 (by omega) (by rw [show mi N94 86 16 = mi m 86 16 from hL95.1.cell (by decide) (by decide) (by omega) (by decide)]; omega) (by omega)) rfl rfl ((hL95.1.st hS).lt (by decide)) ((hL95.1.st hS).k (by decide) (by decide)) (by decide) rfl (Nat.le_of_ble_eq_true rfl) (RB.call hRB (by omega) (by decide)) ⟨Nat.le_refl _, Nat.le_refl _⟩ ?_
              rintro vq N99 ⟨e1, hR⟩
              rw [e1]
              clear e1
              rw [hL95.1.ch] at hR
              dsimp only at hR
              simp only [Option.toList_some, Option.toList_none, List.nil_append]
              cases hres : pAll (chR m) true (((((b + kxt (chR m) b 33) + 1) + 1) + kxt (chR m) (((b + kxt (chR m) b 33) + 1) + 1) 61), v) with
              | error p =>
                rw [hres] at hR hQ
                obtain ⟨hFb, hIb, hX⟩ := hR
                have hX : PX N99 ((((b + kxt (chR m) b 33) + 1) + 1) + kxt (chR m) (((b + kxt (chR m) b 33) + 1) + 1) 61) v.length p := hX
                obtain ⟨x1, x2, x3, x4, x5, x6⟩ := hX
                have hFc := hL95.1.fp hFb
                have e16 : mi N99 86 16 = mi m 86 16 := hFc.cell (by decide) (by decide) (by omega) (by decide)
                have e91 : mi N99 91 6 = l := (hFb.cell (by decide) (by decide)).trans hL95.2.2.2.2
                refine j_aload_n rfl rfl ?_
                refine j_getR (q := 97) rfl f_X12_41 rfl ((hFc.st hS).lt (by decide)) ((hFc.st hS).k (by decide) (by decide)) ((hFc.st hS).r (by decide)) ?_
                refine j_iload_n rfl rfl ?_
                refine j_aload_n rfl rfl ?_
                refine j_getI rfl f_X12_216 rfl ((hFc.st hS).lt (by decide)) ((hFc.st hS).k (by decide) (by decide)) ?_
                have u235_13 := mi_rng N99 86 20
                refine j_iast (n := 84) rfl ((hFc.st hS).lt (by decide)) ((hFc.st hS).k (by decide) (by decide)) ((hFc.st hS).n (by decide) (by decide)) (by omega) (by omega) (by first | decide | omega) ?_
                have e91b : mi (si N99 97 (72 + l).toNat (mi N99 86 20)) 91 (6 : Int).toNat = l := (mi_si_ne _ _ (fun q => absurd q.1 (by decide))).trans e91
                refine j_aload_n rfl rfl ?_
                refine j_getR (q := 91) rfl f_X12_22 rfl ((hFc.st hS).lt (by decide)) ((hFc.st hS).k (by decide) (by decide)) ((hFc.st hS).r (by decide)) ?_
                refine j_bipush rfl (by decide) ?_
                refine j_dup2 rfl (Nat.ne_of_beq_eq_false rfl) (Nat.ne_of_beq_eq_false rfl) ?_
                refine j_iald (n := 7) rfl ((hFc.st hS).lt (by decide)) ((hFc.st hS).k (by decide) (by decide)) ((hFc.st hS).n (by decide) (by decide)) (by omega) (by omega) (by decide) ?_
                rw [show mi (si N99 97 (72 + l).toNat (mi N99 86 20)) 91 (6 : Int).toNat = mi N99 91 (6 : Int).toNat from by simp [mi_si, mi_fil, mi_cpr, mi_sl, mi_sr, ml_sl, ml_si, ml_sr, ml_fil, ml_cpr]]
                have u246_13 := hIb.a 91 (0) 12 (by decide) (6 : Int).toNat
                refine j_iconst rfl ?_
                refine j_iadd rfl ?_
                refine j_iast (n := 7) rfl ((hFc.st hS).lt (by decide)) ((hFc.st hS).k (by decide) (by decide)) ((hFc.st hS).n (by decide) (by decide)) (by omega) (by omega) (by first | decide | omega) ?_
                refine j_vret rfl rfl ?_ rfl (Nat.le_refl _)
                have hQ : (Except.error p : Except Int (PSt × LRec)) = R := hQ
                subst hQ
                refine ⟨rfl, ?_⟩
                rw [show mi N99 91 (6 : Int).toNat = l from e91]
                exact PQ.err hFc hIb hl0 hl1 x1 x2 (by omega)
              | ok z =>
                rw [hres] at hR hQ
                obtain ⟨hFb, hIb, hPb⟩ := hR
                have hPb : PS N99 z.1 0 z.2 := hPb
                have hLz := hL95.fp hFb hIb hPb
                obtain ⟨g1, g2, w2, g3, g4, g5, -⟩ := (hg ((((b + kxt (chR m) b 33) + 1) + 1) + kxt (chR m) (((b + kxt (chR m) b 33) + 1) + 1) 61) v (by omega) (by omega)).1 z hres
                have g7 : (z.2.length : Int) ≤ v.length + (z.1 - ((((b + kxt (chR m) b 33) + 1) + 1) + kxt (chR m) (((b + kxt (chR m) b 33) + 1) + 1) 61)) := by rw [g3, List.length_append]; omega
                have e91 := hLz.2.2.2.2
                refine j_aload_n rfl rfl ?_
                refine j_getR (q := 97) rfl f_X12_41 rfl ((hLz.1.st hS).lt (by decide)) ((hLz.1.st hS).k (by decide) (by decide)) ((hLz.1.st hS).r (by decide)) ?_
                refine j_iload_n rfl rfl ?_
                refine j_aload_n rfl rfl ?_
                refine j_getI rfl f_X12_216 rfl ((hLz.1.st hS).lt (by decide)) ((hLz.1.st hS).k (by decide) (by decide)) ?_
                have u235_14 := mi_rng N99 86 20
                refine j_iast (n := 84) rfl ((hLz.1.st hS).lt (by decide)) ((hLz.1.st hS).k (by decide) (by decide)) ((hLz.1.st hS).n (by decide) (by decide)) (by omega) (by omega) (by first | decide | omega) ?_
                rw [hLz.2.2.1.2.2.2.1]
                have e91b : mi (si N99 97 (72 + l).toNat (z.2.length : Int)) 91 (6 : Int).toNat = l := (mi_si_ne _ _ (fun q => absurd q.1 (by decide))).trans e91
                refine j_aload_n rfl rfl ?_
                refine j_getR (q := 91) rfl f_X12_22 rfl ((hLz.1.st hS).lt (by decide)) ((hLz.1.st hS).k (by decide) (by decide)) ((hLz.1.st hS).r (by decide)) ?_
                refine j_bipush rfl (by decide) ?_
                refine j_dup2 rfl (Nat.ne_of_beq_eq_false rfl) (Nat.ne_of_beq_eq_false rfl) ?_
                refine j_iald (n := 7) rfl ((hLz.1.st hS).lt (by decide)) ((hLz.1.st hS).k (by decide) (by decide)) ((hLz.1.st hS).n (by decide) (by decide)) (by omega) (by omega) (by decide) ?_
                rw [show mi (si N99 97 (72 + l).toNat (z.2.length : Int)) 91 (6 : Int).toNat = mi N99 91 (6 : Int).toNat from by simp [mi_si, mi_fil, mi_cpr, mi_sl, mi_sr, ml_sl, ml_si, ml_sr, ml_fil, ml_cpr]]
                have u246_14 := hLz.2.1.a 91 (0) 12 (by decide) (6 : Int).toNat
                refine j_iconst rfl ?_
                refine j_iadd rfl ?_
                refine j_iast (n := 7) rfl ((hLz.1.st hS).lt (by decide)) ((hLz.1.st hS).k (by decide) (by decide)) ((hLz.1.st hS).n (by decide) (by decide)) (by omega) (by omega) (by first | decide | omega) ?_
                refine j_vret rfl rfl ?_ rfl (Nat.le_refl _)
                have hQ : (Except.ok (z, _) : Except Int (PSt × LRec)) = R := hQ
                subst hQ
                refine ⟨rfl, ?_⟩
                rw [show mi N99 91 (6 : Int).toNat = l from e91]
                exact PQ.fin hLz hl0 hl1 (by omega)
            · skip
              refine j_aload_n rfl rfl ?_
              refine j_callV (ci := 12) rfl okX12_wrong c_X12_222 (ct_X12_wrong (hL95.1.st hS) hL95.2.1) rfl rfl ((hL95.1.st hS).lt (by decide)) ((hL95.1.st hS).k (by decide) (by decide)) (by decide) rfl (Nat.le_of_ble_eq_true rfl) (RB.call hRB (by omega) (by decide)) ⟨Nat.le_refl _, Nat.le_refl _⟩ ?_
              have hz0 : ((((b + kxt (chR m) b 33) + 1) + 1) + kxt (chR m) (((b + kxt (chR m) b 33) + 1) + 1) 61) = (((b + kxt (chR m) b 33) + 1) + 1) := by omega
              rw [hz0] at hL95
              rintro vq mq ⟨e1, e2⟩
              rw [if_neg (by rw [hL95.2.2.1.2.1]; decide), hL95.2.2.1.1] at e2
              rw [e1, e2]
              clear e1 e2
              simp only [Option.toList_some, Option.toList_none, List.cons_append, List.nil_append]
              have hB := hL95.bad (by omega) (by omega)
              refine j_vret rfl rfl ?_ rfl (Nat.le_refl _)
              exact ⟨rfl, by rw [if_neg (by omega)] at hQ; rw [← hQ]; exact ⟨hB.1, hB.2.1, hB.2.2⟩⟩
          · skip
            refine j_bipush rfl (by decide) ?_
            refine j_goto (tgt := 199) rfl (by decide) ?_
            refine j_iadd rfl ?_
            refine j_iast (n := 84) rfl ((hL62.1.st hS).lt (by decide)) ((hL62.1.st hS).k (by decide) (by decide)) ((hL62.1.st hS).n (by decide) (by decide)) (by omega) (by omega) (by first | decide | omega) ?_
            have hT : pTgt (chR m) (b + kxt (chR m) b 33) = .ok (((chR m ((b + kxt (chR m) b 33) + 1)) - 48) + 10) := by unfold pTgt; first | (rw [if_pos (by omega), if_pos (by omega)]; congr 1; omega) | (rw [if_neg (by omega), if_pos (by omega), if_pos (by omega)])
            unfold pRest at hQ
            rw [hT] at hQ
            dsimp only at hQ
            have hL101 := hL62.s94 (v := (((chR m ((b + kxt (chR m) b 33) + 1)) - 48) + 10)) (by omega)
            generalize si N61 94 (72 + l).toNat (((chR m ((b + kxt (chR m) b 33) + 1)) - 48) + 10) = N100 at hL101 ⊢
            refine j_aload_n rfl rfl ?_
            refine j_dup rfl (Nat.ne_of_beq_eq_false rfl) ?_
            refine j_getI rfl f_X12_210 rfl ((hL101.1.st hS).lt (by decide)) ((hL101.1.st hS).k (by decide) (by decide)) ?_
            have u203_8 := mi_rng N100 86 17
            refine j_iconst rfl ?_
            refine j_iadd rfl ?_
            refine j_putI rfl f_X12_210 rfl ((hL101.1.st hS).lt (by decide)) ((hL101.1.st hS).k (by decide) (by decide)) ?_
            have lt104 := lt_end (chR_end m) (a := ((b + kxt (chR m) b 33) + 1)) (by omega)
            rw [hL101.2.2.1.1]
            have hL103 := hL101.adv (d := (((b + kxt (chR m) b 33) + 1) + 1)) (by omega) (by omega)
            generalize si N100 86 17 (((b + kxt (chR m) b 33) + 1) + 1) = N102 at hL103 ⊢
            refine j_aload_n rfl rfl ?_
            refine j_bipush rfl (by decide) ?_
            refine j_callV (ci := 12) rfl okX12_isNext c_X12_261 (ct_X12_isNextU (hL103.1.st hS) hL103.2.1 hL103.2.2.1 (by omega) (by rw [show mi N102 86 16 = mi m 86 16 from hL103.1.cell (by decide) (by decide) (by omega) (by decide)]; omega) (by omega) (by decide)) rfl rfl ((hL103.1.st hS).lt (by decide)) ((hL103.1.st hS).k (by decide) (by decide)) (by decide) rfl (Nat.le_of_ble_eq_true rfl) (RB.call hRB (by omega) (by decide)) ⟨Nat.le_refl _, Nat.le_refl _⟩ ?_
            rintro vq N105 ⟨e1, qf, qi, qp⟩
            rw [hL103.1.ch] at e1 qp
            rw [e1]
            clear e1
            simp only [Option.toList_some, Option.toList_none, List.cons_append, List.nil_append]
            have hL106 := hL103.fp qf qi qp
            clear qf qi qp
            have kx107 := kxt_c (chR m) (((b + kxt (chR m) b 33) + 1) + 1) 61
            have kl108 := fun (z : chR m (((b + kxt (chR m) b 33) + 1) + 1) = 61) => lt_end (chR_end m) (a := (((b + kxt (chR m) b 33) + 1) + 1)) (by omega)
            have kb109 : ((((b + kxt (chR m) b 33) + 1) + 1) + kxt (chR m) (((b + kxt (chR m) b 33) + 1) + 1) 61) ≤ mi m 86 16 := by omega
            refine j_if_ne (tgt := 225) rfl (by decide) (by omega) (by omega) (fun hb217_8 => ?_) (fun hb217_8 => ?_)
            · skip
              rw [if_pos (by omega)] at hQ
              have hkp : ((((b + kxt (chR m) b 33) + 1) + 1) + kxt (chR m) (((b + kxt (chR m) b 33) + 1) + 1) 61) = (((b + kxt (chR m) b 33) + 1) + 1) + 1 := by omega
              rw [← hkp] at hQ
              refine j_aload_n rfl rfl ?_
              refine j_callV (ci := 12) rfl okX12_either c_X12_243 (ct_X12_eitherA G N105 ((((b + kxt (chR m) b 33) + 1) + 1) + kxt (chR m) (((b + kxt (chR m) b 33) + 1) + 1) 61) v (hL106.1.st hS) hL106.2.1 hL106.2.2.1 (by omega) (by rw [show mi N105 86 16 = mi m 86 16 from hL106.1.cell (by decide) (by decide) (by omega) (by decide)]; omega) (by omega)) rfl rfl ((hL106.1.st hS).lt (by decide)) ((hL106.1.st hS).k (by decide) (by decide)) (by decide) rfl (Nat.le_of_ble_eq_true rfl) (RB.call hRB (by omega) (by decide)) ⟨Nat.le_refl _, Nat.le_refl _⟩ ?_
              rintro vq N110 ⟨e1, hR⟩
              rw [e1]
              clear e1
              rw [hL106.1.ch] at hR
              dsimp only at hR
              simp only [Option.toList_some, Option.toList_none, List.nil_append]
              cases hres : pAll (chR m) true (((((b + kxt (chR m) b 33) + 1) + 1) + kxt (chR m) (((b + kxt (chR m) b 33) + 1) + 1) 61), v) with
              | error p =>
                rw [hres] at hR hQ
                obtain ⟨hFb, hIb, hX⟩ := hR
                have hX : PX N110 ((((b + kxt (chR m) b 33) + 1) + 1) + kxt (chR m) (((b + kxt (chR m) b 33) + 1) + 1) 61) v.length p := hX
                obtain ⟨x1, x2, x3, x4, x5, x6⟩ := hX
                have hFc := hL106.1.fp hFb
                have e16 : mi N110 86 16 = mi m 86 16 := hFc.cell (by decide) (by decide) (by omega) (by decide)
                have e91 : mi N110 91 6 = l := (hFb.cell (by decide) (by decide)).trans hL106.2.2.2.2
                refine j_aload_n rfl rfl ?_
                refine j_getR (q := 97) rfl f_X12_41 rfl ((hFc.st hS).lt (by decide)) ((hFc.st hS).k (by decide) (by decide)) ((hFc.st hS).r (by decide)) ?_
                refine j_iload_n rfl rfl ?_
                refine j_aload_n rfl rfl ?_
                refine j_getI rfl f_X12_216 rfl ((hFc.st hS).lt (by decide)) ((hFc.st hS).k (by decide) (by decide)) ?_
                have u235_15 := mi_rng N110 86 20
                refine j_iast (n := 84) rfl ((hFc.st hS).lt (by decide)) ((hFc.st hS).k (by decide) (by decide)) ((hFc.st hS).n (by decide) (by decide)) (by omega) (by omega) (by first | decide | omega) ?_
                have e91b : mi (si N110 97 (72 + l).toNat (mi N110 86 20)) 91 (6 : Int).toNat = l := (mi_si_ne _ _ (fun q => absurd q.1 (by decide))).trans e91
                refine j_aload_n rfl rfl ?_
                refine j_getR (q := 91) rfl f_X12_22 rfl ((hFc.st hS).lt (by decide)) ((hFc.st hS).k (by decide) (by decide)) ((hFc.st hS).r (by decide)) ?_
                refine j_bipush rfl (by decide) ?_
                refine j_dup2 rfl (Nat.ne_of_beq_eq_false rfl) (Nat.ne_of_beq_eq_false rfl) ?_
                refine j_iald (n := 7) rfl ((hFc.st hS).lt (by decide)) ((hFc.st hS).k (by decide) (by decide)) ((hFc.st hS).n (by decide) (by decide)) (by omega) (by omega) (by decide) ?_
                rw [show mi (si N110 97 (72 + l).toNat (mi N110 86 20)) 91 (6 : Int).toNat = mi N110 91 (6 : Int).toNat from by simp [mi_si, mi_fil, mi_cpr, mi_sl, mi_sr, ml_sl, ml_si, ml_sr, ml_fil, ml_cpr]]
                have u246_15 := hIb.a 91 (0) 12 (by decide) (6 : Int).toNat
                refine j_iconst rfl ?_
                refine j_iadd rfl ?_
                refine j_iast (n := 7) rfl ((hFc.st hS).lt (by decide)) ((hFc.st hS).k (by decide) (by decide)) ((hFc.st hS).n (by decide) (by decide)) (by omega) (by omega) (by first | decide | omega) ?_
                refine j_vret rfl rfl ?_ rfl (Nat.le_refl _)
                have hQ : (Except.error p : Except Int (PSt × LRec)) = R := hQ
                subst hQ
                refine ⟨rfl, ?_⟩
                rw [show mi N110 91 (6 : Int).toNat = l from e91]
                exact PQ.err hFc hIb hl0 hl1 x1 x2 (by omega)
              | ok z =>
                rw [hres] at hR hQ
                obtain ⟨hFb, hIb, hPb⟩ := hR
                have hPb : PS N110 z.1 0 z.2 := hPb
                have hLz := hL106.fp hFb hIb hPb
                obtain ⟨g1, g2, w2, g3, g4, g5, -⟩ := (hg ((((b + kxt (chR m) b 33) + 1) + 1) + kxt (chR m) (((b + kxt (chR m) b 33) + 1) + 1) 61) v (by omega) (by omega)).1 z hres
                have g7 : (z.2.length : Int) ≤ v.length + (z.1 - ((((b + kxt (chR m) b 33) + 1) + 1) + kxt (chR m) (((b + kxt (chR m) b 33) + 1) + 1) 61)) := by rw [g3, List.length_append]; omega
                have e91 := hLz.2.2.2.2
                refine j_aload_n rfl rfl ?_
                refine j_getR (q := 97) rfl f_X12_41 rfl ((hLz.1.st hS).lt (by decide)) ((hLz.1.st hS).k (by decide) (by decide)) ((hLz.1.st hS).r (by decide)) ?_
                refine j_iload_n rfl rfl ?_
                refine j_aload_n rfl rfl ?_
                refine j_getI rfl f_X12_216 rfl ((hLz.1.st hS).lt (by decide)) ((hLz.1.st hS).k (by decide) (by decide)) ?_
                have u235_16 := mi_rng N110 86 20
                refine j_iast (n := 84) rfl ((hLz.1.st hS).lt (by decide)) ((hLz.1.st hS).k (by decide) (by decide)) ((hLz.1.st hS).n (by decide) (by decide)) (by omega) (by omega) (by first | decide | omega) ?_
                rw [hLz.2.2.1.2.2.2.1]
                have e91b : mi (si N110 97 (72 + l).toNat (z.2.length : Int)) 91 (6 : Int).toNat = l := (mi_si_ne _ _ (fun q => absurd q.1 (by decide))).trans e91
                refine j_aload_n rfl rfl ?_
                refine j_getR (q := 91) rfl f_X12_22 rfl ((hLz.1.st hS).lt (by decide)) ((hLz.1.st hS).k (by decide) (by decide)) ((hLz.1.st hS).r (by decide)) ?_
                refine j_bipush rfl (by decide) ?_
                refine j_dup2 rfl (Nat.ne_of_beq_eq_false rfl) (Nat.ne_of_beq_eq_false rfl) ?_
                refine j_iald (n := 7) rfl ((hLz.1.st hS).lt (by decide)) ((hLz.1.st hS).k (by decide) (by decide)) ((hLz.1.st hS).n (by decide) (by decide)) (by omega) (by omega) (by decide) ?_
                rw [show mi (si N110 97 (72 + l).toNat (z.2.length : Int)) 91 (6 : Int).toNat = mi N110 91 (6 : Int).toNat from by simp [mi_si, mi_fil, mi_cpr, mi_sl, mi_sr, ml_sl, ml_si, ml_sr, ml_fil, ml_cpr]]
                have u246_16 := hLz.2.1.a 91 (0) 12 (by decide) (6 : Int).toNat
                refine j_iconst rfl ?_
                refine j_iadd rfl ?_
                refine j_iast (n := 7) rfl ((hLz.1.st hS).lt (by decide)) ((hLz.1.st hS).k (by decide) (by decide)) ((hLz.1.st hS).n (by decide) (by decide)) (by omega) (by omega) (by first | decide | omega) ?_
                refine j_vret rfl rfl ?_ rfl (Nat.le_refl _)
                have hQ : (Except.ok (z, _) : Except Int (PSt × LRec)) = R := hQ
                subst hQ
                refine ⟨rfl, ?_⟩
                rw [show mi N110 91 (6 : Int).toNat = l from e91]
                exact PQ.fin hLz hl0 hl1 (by omega)
            · skip
              refine j_aload_n rfl rfl ?_
              refine j_callV (ci := 12) rfl okX12_wrong c_X12_222 (ct_X12_wrong (hL106.1.st hS) hL106.2.1) rfl rfl ((hL106.1.st hS).lt (by decide)) ((hL106.1.st hS).k (by decide) (by decide)) (by decide) rfl (Nat.le_of_ble_eq_true rfl) (RB.call hRB (by omega) (by decide)) ⟨Nat.le_refl _, Nat.le_refl _⟩ ?_
              have hz0 : ((((b + kxt (chR m) b 33) + 1) + 1) + kxt (chR m) (((b + kxt (chR m) b 33) + 1) + 1) 61) = (((b + kxt (chR m) b 33) + 1) + 1) := by omega
              rw [hz0] at hL106
              rintro vq mq ⟨e1, e2⟩
              rw [if_neg (by rw [hL106.2.2.1.2.1]; decide), hL106.2.2.1.1] at e2
              rw [e1, e2]
              clear e1 e2
              simp only [Option.toList_some, Option.toList_none, List.cons_append, List.nil_append]
              have hB := hL106.bad (by omega) (by omega)
              refine j_vret rfl rfl ?_ rfl (Nat.le_refl _)
              exact ⟨rfl, by rw [if_neg (by omega)] at hQ; rw [← hQ]; exact ⟨hB.1, hB.2.1, hB.2.2⟩⟩
        · skip
          refine j_aload_n rfl rfl ?_
          refine j_callV (ci := 12) rfl okX12_wrong c_X12_222 (ct_X12_wrong (hL62.1.st hS) hL62.2.1) rfl rfl ((hL62.1.st hS).lt (by decide)) ((hL62.1.st hS).k (by decide) (by decide)) (by decide) rfl (Nat.le_of_ble_eq_true rfl) (RB.call hRB (by omega) (by decide)) ⟨Nat.le_refl _, Nat.le_refl _⟩ ?_
          rintro vq mq ⟨e1, e2⟩
          rw [if_neg (by rw [hL62.2.2.1.2.1]; decide), hL62.2.2.1.1] at e2
          rw [e1, e2]
          clear e1 e2
          simp only [Option.toList_some, Option.toList_none, List.cons_append, List.nil_append]
          have hB := hL62.bad (by omega) (by omega)
          refine j_vret rfl rfl ?_ rfl (Nat.le_refl _)
          exact ⟨rfl, by rw [← hQ]; unfold pRest pTgt; first | (rw [if_neg (by omega), if_neg (by omega)]; exact ⟨hB.1, hB.2.1, hB.2.2⟩) | (rw [if_pos (by omega), if_neg (by omega)]; exact ⟨hB.1, hB.2.1, hB.2.2⟩) | (rw [if_neg (by omega), if_pos (by omega), if_neg (by omega)]; exact ⟨hB.1, hB.2.1, hB.2.2⟩)⟩
    · skip
      refine j_aload_n rfl rfl ?_
      refine j_callV (ci := 12) rfl okX12_wrong c_X12_222 (ct_X12_wrong (hL9.1.st hS) hL9.2.1) rfl rfl ((hL9.1.st hS).lt (by decide)) ((hL9.1.st hS).k (by decide) (by decide)) (by decide) rfl (Nat.le_of_ble_eq_true rfl) (RB.call hRB (by omega) (by decide)) ⟨Nat.le_refl _, Nat.le_refl _⟩ ?_
      rintro vq mq ⟨e1, e2⟩
      rw [if_neg (by rw [hL9.2.2.1.2.1]; decide), hL9.2.2.1.1] at e2
      rw [e1, e2]
      clear e1 e2
      simp only [Option.toList_some, Option.toList_none, List.cons_append, List.nil_append]
      have hB := hL9.bad (by omega) (by omega)
      refine j_vret rfl rfl ?_ rfl (Nat.le_refl _)
      exact ⟨rfl, by rw [← hQ]; unfold pRest pTgt; first | (rw [if_neg (by omega), if_neg (by omega)]; exact ⟨hB.1, hB.2.1, hB.2.2⟩) | (rw [if_pos (by omega), if_neg (by omega)]; exact ⟨hB.1, hB.2.1, hB.2.2⟩) | (rw [if_neg (by omega), if_pos (by omega), if_neg (by omega)]; exact ⟨hB.1, hB.2.1, hB.2.2⟩)⟩


/-! far(), worth(): the same answers -/
theorem cpr_ne {m : AM} {o1 o0 p j : Nat} {e : Int} (h : p ≠ o1) : (cpr m o1 o0 e).1 p j = m.1 p j := if_neg (fun q => h q.1)
theorem kpR_o {K : AM} {o j : Nat} (h : ¬ (128 ≤ o ∧ o ≤ 131)) : (FX12_keepRun K).1 o j = K.1 o j := by
  unfold FX12_keepRun
  rw [cpr_ne (by omega), cpr_ne (by omega), cpr_ne (by omega), cpr_ne (by omega)]
theorem kpR_m {K : AM} {o j : Nat} (h : ¬ (128 ≤ o ∧ o ≤ 131)) : mi (FX12_keepRun K) o j = mi K o j := congrArg (fun q => (zi q).toInt) (kpR_o h)
theorem kpR_v {K : AM} (j : Nat) : (j < 48 → mi (FX12_keepRun K) 128 j = mi K 106 j) ∧ (j < 24 → mi (FX12_keepRun K) 129 j = mi K 107 j) ∧ (j < 24 → mi (FX12_keepRun K) 130 j = mi K 108 j) ∧ (j < 6 → mi (FX12_keepRun K) 131 j = mi K 111 j) := by
  unfold FX12_keepRun
  refine ⟨fun h => ?_, fun h => ?_, fun h => ?_, fun h => ?_⟩
  · rw [mi_cpr, if_neg (by omega), mi_cpr, if_neg (by omega), mi_cpr, if_neg (by omega), mi_cpr, if_pos (by omega)]
  · rw [mi_cpr, if_neg (by omega), mi_cpr, if_neg (by omega), mi_cpr, if_pos (by omega), mi_cpr, if_neg (by omega)]
  · rw [mi_cpr, if_neg (by omega), mi_cpr, if_pos (by omega), mi_cpr, if_neg (by omega), mi_cpr, if_neg (by omega)]
  · rw [mi_cpr, if_pos (by omega), mi_cpr, if_neg (by omega), mi_cpr, if_neg (by omega), mi_cpr, if_neg (by omega)]
theorem FQ.kpR {m N : AM} (h : FQ m N) : FQ m (FX12_keepRun N) := ⟨h.1, h.2.1, fun o j a b c => by
  rw [kpR_o (by omega)]
  exact h.2.2 o j a b c⟩
/-- what the reference kept of a run -/
def JK (M : AM) (S : ZS) : Prop := (∀ j : Nat, j < 48 → mi M 128 j = S.sl j) ∧ (∀ j : Nat, j < 24 → mi M 129 j = S.po j) ∧ (∀ b p : Nat, b < 6 → p < 4 → mi M 130 (4 * b + p) = S.fa b) ∧ ∀ b : Nat, b < 6 → mi M 131 b = if S.fa b ≠ 0 then 1 else 0
theorem JM.kpR {K : AM} {S : ZS} (h : JM K S) : JK (FX12_keepRun K) S :=
  ⟨fun j hj => ((kpR_v j).1 hj).trans (h.1 j hj), fun j hj => ((kpR_v j).2.1 hj).trans (h.2.1 j hj), fun b p hb hp => ((kpR_v (4 * b + p)).2.2.1 (by omega)).trans (h.2.2.1 b p hb hp), fun b hb => ((kpR_v b).2.2.2 hb).trans (h.2.2.2.1 b hb)⟩
theorem JK.same {M N : AM} {S : ZS} (h : JK M S) (e : ∀ o j : Nat, 128 ≤ o → o ≤ 131 → mi N o j = mi M o j) : JK N S :=
  ⟨fun j hj => (e _ _ (by decide) (by decide)).trans (h.1 j hj), fun j hj => (e _ _ (by decide) (by decide)).trans (h.2.1 j hj), fun b p hb hp => (e _ _ (by decide) (by decide)).trans (h.2.2.1 b p hb hp), fun b hb => (e _ _ (by decide) (by decide)).trans (h.2.2.2 b hb)⟩
theorem JK.own {M : AM} {S : ZS} (h : JK M S) (k : Nat) (v : Int) : JK (si M 86 k v) S := h.same (fun o j a b => mi_si_ne M v (by omega))
theorem JK.run {M : AM} {S : ZS} (h : JK M S) (f n : Int) : JK (roM M f n) S := h.same (fun o j a b => ((FR.rf M).run f n).cell (by omega) (by omega))
theorem JM.own {M : AM} {S : ZS} (h : JM M S) {k : Nat} (hk : ¬ (35 ≤ k ∧ k ≤ 38)) (v : Int) : JM (si M 86 k v) S :=
  h.rows (fun o ho j => mi_si_ne M v (fun z => by have := (by decide : ∀ o ∈ ([106, 107, 108, 111, 112, 113] : List Nat), o ≠ 86) o ho; exact this z.1)) (fun j a b => mi_si_ne M v (by omega))
theorem JM.asIs {M : AM} {S : ZS} (h : JM M S) : JM (aiM M) S := ((h.own (by decide) _).own (by decide) _).own (by decide) _
theorem JK.asIs {M : AM} {S : ZS} (h : JK M S) : JK (aiM M) S := ((h.own _ _).own _ _).own _ _
theorem likeX_zw {M : AM} {S T : ZS} (h1 : JM M T) (h2 : JK M S) {b : Nat} (hb : b < 6) : likeX M (b : Int) ↔ zLk S T b := by
  unfold likeX zLk
  rw [Int.toNat_natCast]
  constructor
  · rintro ⟨-, a2, a3⟩
    refine ⟨?_, fun r hr => ?_, fun p hp => ?_⟩
    · have q := (a3 0 (by decide)).2
      rw [h1.2.2.1 b 0 hb (by decide), h2.2.2.1 b 0 hb (by decide)] at q
      exact q.symm
    · have q := a2 r (List.mem_range.mpr hr)
      rw [h1.1 _ (by omega), h2.1 _ (by omega)] at q
      exact q.symm
    · have q := (a3 p (List.mem_range.mpr hp)).1
      rw [h1.2.1 _ (by omega), h2.2.1 _ (by omega)] at q
      exact q.symm
  · rintro ⟨a1, a2, a3⟩
    refine ⟨?_, fun s hs => ?_, fun p hp => ⟨?_, ?_⟩⟩
    · rw [h1.2.2.2.1 b hb, h2.2.2.2 b hb, a1]
    · have hs := List.mem_range.mp hs
      rw [h1.1 _ (by omega), h2.1 _ (by omega)]
      exact (a2 s hs).symm
    · have hp := List.mem_range.mp hp
      rw [h1.2.1 _ (by omega), h2.2.1 _ (by omega)]
      exact (a3 p hp).symm
    · have hp := List.mem_range.mp hp
      rw [h1.2.2.1 b p hb hp, h2.2.2.1 b p hb hp]
      exact a1.symm
/-- behind both sides: what holds between calls -/
theorem Inv.both {m M N : AM} (h : Inv m) (hc : CU m M) (hQ : QR M) (hR : RI N) (hF : FQ M N) : Inv N := (h.cu hQ hc).fq (hQ.1.mv hR hF) hF
theorem far_ok {m M : AM} {b f n ft : Int} (h : QR m) (hc : CU m M) (hQ : QR M) (hb : 0 ≤ b ∧ b < mi m 0 16) (hf : 0 ≤ f ∧ f < mi m 0 17) (hn : 1 ≤ n ∧ n ≤ 200) (hft : 0 ≤ ft ∧ (1 ≤ ft / 1000 ∧ ft / 1000 ≤ 9) ∧ ft % 1000 < 200) (J1 : JC M 32 (zwFull (wN m) (feF m (fl m f)) n)) (J2 : JC M 40 (zwFlyX (wN m) (feF m (fl m f)) n b (ft % 1000) (ft / 1000))) : (farR M b f n ft).1 = orL (uC M) (mi m 0 16).toNat ∧ RI (farR M b f n ft).2 ∧ FQ M (farR M b f n ft).2 := by
  have h16 := h.i.s 0 16 0 6 (by decide)
  have e16 : mi m 0 16 = mi m 86 1 := h.2.1.1
  have e17 : mi m 0 17 = mi m 86 21 := h.2.2.1.1
  have f17 : mi M 0 17 = mi m 0 17 := hc.1.2.2.1 0 17 (by unfold NQ; omega)
  have f21 : mi M 86 21 = mi m 86 21 := hc.2.1 86 21 (by decide) (by decide)
  have f1 : mi M 86 1 = mi m 86 1 := hc.2.1 86 1 (by decide) (by decide)
  have ew : wN M = wN m := hc.1.wn
  have ef : feF M (fl M f) = feF m (fl m f) := hc.1.fee (h.flt hf.1 hf.2).1.2
  have hfM : 0 ≤ f ∧ f < mi M 0 17 := by rw [f17]; exact hf
  have g : farR M b f n ft = (orL (ulF (farE M b f n ft)) (mi (farE M b f n ft) 86 1).toNat, farE M b f n ft) := if_pos ⟨by rw [f1, ← e16]; exact hb, by rw [f21, ← e17]; exact hf, hn, hft⟩
  rw [g]
  obtain ⟨r1, q1, j1⟩ := ref_K (f := f) (n := n) hQ hfM hn
  unfold farE
  have k43 := aiM_k M
  have k46 : mi (roM (aiM M) f n) 86 46 < 0 := by rw [roM_k _ _ _ (by omega)]; exact k43.2.1
  have k48 : mi (roM (aiM M) f n) 86 48 < 0 := by rw [roM_k _ _ _ (by omega)]; exact k43.2.2
  generalize roM (aiM M) f n = K at r1 q1 j1 k46 k48
  have r2 : RI (faM K b ft) := ((r1.keepR.own (k := 43) b (by decide) (by decide)).failBy (by omega) (by omega)).own (k := 44) _ (by decide) (by decide)
  have q2 : FQ M (faM K b ft) := ((q1.kpR.own (by omega) _).own (by omega) _).own (by omega) _
  have kk : JK (faM K b ft) (zwFull (wN M) (feF M (fl M f)) n) := ((j1.kpR.own _ _).own _ _).own _ _
  have v43 : mi (faM K b ft) 86 43 = b := by
    unfold faM
    rw [mi_si_ne _ _ (by omega), mi_si_ne _ _ (by omega), mi_si_same _ _ _ (by omega) (by omega)]
  have v45 : mi (faM K b ft) 86 45 = ft / 1000 := by
    unfold faM
    rw [mi_si_ne _ _ (by omega), mi_si_same _ _ _ (by omega) (by omega)]
  have v44 : mi (faM K b ft) 86 44 = ft % 1000 := by
    unfold faM
    rw [mi_si_same _ _ _ (by omega) (by omega)]
  have v46 : mi (faM K b ft) 86 46 < 0 := by
    unfold faM
    rw [mi_si_ne _ _ (by omega), mi_si_ne _ _ (by omega), mi_si_ne _ _ (by omega), kpR_m (by omega)]
    exact k46
  have v48 : mi (faM K b ft) 86 48 < 0 := by
    unfold faM
    rw [mi_si_ne _ _ (by omega), mi_si_ne _ _ (by omega), mi_si_ne _ _ (by omega), kpR_m (by omega)]
    exact k48
  have j2 := ref_fail (f := f) (n := n) hQ r2 q2 v43 v44 v45 (by omega) v46 v48 (by rw [f1, ← e16]; exact hb) hfM (by omega) hn.2
  have r3 := r2.run (f := f) (n := n) (by omega) hn.2
  have q3 := q2.run f n
  have k3 := kk.run f n
  generalize roM (faM K b ft) f n = L at j2 r3 q3 k3
  rw [ew, ef] at j2 k3
  refine ⟨?_, r3.asIs, q3.asIs⟩
  show orL (ulF (aiM L)) (mi (aiM L) 86 1).toNat = _
  have a1 : mi (aiM L) 86 1 = mi m 0 16 := by rw [q3.asIs.cell (by omega) (by omega) (by omega), f1, e16]
  rw [a1]
  refine orL_c2 _ (fun j hj => ?_)
  have hj6 : j < 6 := by omega
  have l1 := likeX_zw j2.asIs k3.asIs hj6
  have l2 := likS_zw J1 J2 hj6
  unfold ulF uC
  by_cases z : zLk (zwFull (wN m) (feF m (fl m f)) n) (zwFlyX (wN m) (feF m (fl m f)) n b (ft % 1000) (ft / 1000)) j
  · rw [if_pos (l1.mpr z), if_pos (l2.mpr z)]
  · rw [if_neg (fun y => z (l1.mp y)), if_neg (fun y => z (l2.mp y))]
theorem ag_far {G : QW} {m : AM} {b f n ft : Int} (h : Inv m) (hb1 : -2147483648 ≤ b) (hb2 : b < 2147483648) (hf1 : -2147483648 ≤ f) (hf2 : f < 2147483648) (hn1 : -2147483648 ≤ n) (hn2 : n < 2147483648) (ht1 : -2147483648 ≤ ft) (ht2 : ft < 2147483648) : AG G mX11_far mX12_far 6 7 0 0 [vI b, vI f, vI n, vI ft] m := by
  refine (cr_far h.1 hb1 hb2 hf1 hf2 hn1 hn2 ht1 ht2).mono (fun r N2 q => ?_)
  by_cases c : (0 ≤ b ∧ b < mi m 0 16) ∧ (0 ≤ f ∧ f < mi m 0 17) ∧ (1 ≤ n ∧ n ≤ 200) ∧ 0 ≤ ft ∧ (1 ≤ ft / 1000 ∧ ft / 1000 ≤ 9) ∧ ft % 1000 < 200
  · obtain ⟨J1, J2, hc, hQ, e2⟩ := q.1 c
    obtain ⟨hv, hR, hF⟩ := far_ok h.1 hc hQ c.1 c.2.1 c.2.2.1 c.2.2.2 J1 J2
    exact ⟨_, e2, rfl, hQ.1.1.1.1.1.1, (ct_X12_far hQ.1.1.1 hb1 hb2 hf1 hf2 hn1 hn2 ht1 ht2).mono (fun r2 m2 p => ⟨by rw [p.1, hv], (h.both hc hQ hR hF).same p.2⟩)⟩
  · obtain ⟨e2, e1⟩ := q.2 c
    rw [e1]
    refine ⟨_, e2, rfl, h.1.1.1.1.1.1.1, (ct_X12_far h.1.1.1.1 hb1 hb2 hf1 hf2 hn1 hn2 ht1 ht2).mono (fun r2 m2 p => ?_)⟩
    have e : farR m b f n ft = (-1, m) := if_neg (by rw [← h.1.2.1.1, ← h.1.2.2.1.1]; exact c)
    rw [e] at p
    exact ⟨p.1, h.same p.2⟩
/-- the ground on which the reference runs: its own numbers tell of no fault, no rest, no watch -/
theorem GS.mk2 {M : AM} (hQ : QR M) : GS M (aiM M) := ⟨hQ.1.1.1.asIs, (FQ.rf M).asIs, (aiM_k M).1, (aiM_k M).2.1, (aiM_k M).2.2⟩
theorem GS.run {M N : AM} (hQ : QR M) (g : GS M N) {f n : Int} (hf : 0 ≤ f ∧ f < mi M 0 17) (hn : 1 ≤ n ∧ n ≤ 200) : GS M (roM N f n) ∧ JM (roM N f n) (zwFull (wN M) (Fm M f) n) :=
  ⟨⟨g.1.run (by omega) hn.2, g.2.1.run f n, by rw [roM_k _ _ _ (by omega)]; exact g.2.2.1, by rw [roM_k _ _ _ (by omega)]; exact g.2.2.2.1, by rw [roM_k _ _ _ (by omega)]; exact g.2.2.2.2⟩, ref_run hQ g.1 g.2.1 g.2.2.1 g.2.2.2.1 g.2.2.2.2 hf (by omega) hn.2⟩
theorem JM.dead {M : AM} {S : ZS} (h : JM M S) {b : Int} (hb : 0 ≤ b ∧ b ≤ 5) : mi M 111 b.toNat ≠ 0 ↔ S.fa b.toNat ≠ 0 := by
  rw [h.2.2.2.1 b.toNat (by omega)]
  by_cases z : S.fa b.toNat ≠ 0
  · rw [if_pos z]; exact ⟨fun _ => z, fun _ => by decide⟩
  · rw [if_neg z]; exact ⟨fun y => absurd rfl y, fun y => absurd y z⟩
theorem wr_sem {M : AM} {t x fs n : Int} (hQ : QR M) (ht : 0 ≤ t ∧ t ≤ 5) (hx : 0 ≤ x ∧ x ≤ 5) (hn : 1 ≤ n ∧ n ≤ 200) : ∀ (c : Nat) (f a : Int) (N : AM), GS M N → f + c = mi M 0 17 → 0 ≤ f → (wrL t x fs n c f a N).1 = zWo (wN M) (Fm M) x t fs n c f a ∧ GS M (wrL t x fs n c f a N).2 := by
  intro c
  induction c with
  | zero => intro f a N g hc hf; exact ⟨rfl, g⟩
  | succ c ih =>
    intro f a N g hc hf
    by_cases z : z_iand (z_ishr fs f) 1 = 0
    · rw [show wrL t x fs n (c + 1) f a N = wrL t x fs n c (f + 1) a N from if_pos z, zWo_0 (by omega)]
      exact ih _ _ _ g (by omega) (by omega)
    · have z1 : z_iand (z_ishr fs f) 1 = 1 := by
        have := and_one (z_ishr fs f)
        split at this
        · exact this
        · exact absurd this z
      obtain ⟨g2, j⟩ := g.run (f := f) hQ (by omega) hn
      rw [show wrL t x fs n (c + 1) f a N = wrL t x fs n c (f + 1) (a + (if mi (roM N f n) 111 x.toNat ≠ 0 ∧ mi (roM N f n) 111 t.toNat = 0 then 1 else 0)) (roM N f n) from if_neg z, zWo_1 z1]
      have e : (if mi (roM N f n) 111 x.toNat ≠ 0 ∧ mi (roM N f n) 111 t.toNat = 0 then (1 : Int) else 0) = if (zwFull (wN M) (Fm M f) n).fa x.toNat ≠ 0 ∧ (zwFull (wN M) (Fm M f) n).fa t.toNat = 0 then 1 else 0 := by
        have d1 := j.dead hx
        have d2 := j.dead ht
        by_cases y : (zwFull (wN M) (Fm M f) n).fa x.toNat ≠ 0 ∧ (zwFull (wN M) (Fm M f) n).fa t.toNat = 0
        · rw [if_pos y, if_pos ⟨d1.mpr y.1, Decidable.byContradiction (fun w => (d2.mp w) y.2)⟩]
        · rw [if_neg y, if_neg (fun w => y ⟨d1.mp w.1, Decidable.byContradiction (fun v => (d2.mpr v) w.2)⟩)]
      rw [e]
      exact ih _ _ _ g2 (by omega) (by omega)
theorem Fm_cu {m M : AM} (h : QR m) (hc : CU m M) {f : Int} (hf : 0 ≤ f ∧ f < mi m 0 17) : Fm M f = Fm m f := hc.1.fee (h.flt hf.1 hf.2).1.2
theorem zWo_cg {W : ZW} {F F' : Int → Int → Nat → Int} {x t fs n nf : Int} (e : ∀ f, 0 ≤ f → f < nf → F f = F' f) : ∀ (c : Nat) (f s : Int), f + c = nf → 0 ≤ f → zWo W F x t fs n c f s = zWo W F' x t fs n c f s := by
  intro c
  induction c with
  | zero => intro f s _ _; rfl
  | succ c ih =>
    intro f s hc hf
    by_cases z : z_iand (z_ishr fs f) 1 = 1
    · rw [zWo_1 z, zWo_1 z, e f hf (by omega)]
      exact ih _ _ (by omega) (by omega)
    · rw [zWo_0 z, zWo_0 z]
      exact ih _ _ (by omega) (by omega)
theorem ag_worth {G : QW} {m : AM} {t fs n : Int} (h : Inv m) (ht1 : -2147483648 ≤ t) (ht2 : t < 2147483648) (hs1 : -2147483648 ≤ fs) (hs2 : fs < 2147483648) (hn1 : -2147483648 ≤ n) (hn2 : n < 2147483648) : AG G mX11_worth mX12_worth 6 6 0 0 [vI t, vI fs, vI n] m := by
  have h16 := h.i.s 0 16 0 6 (by decide)
  have e16 : mi m 0 16 = mi m 86 1 := h.1.2.1.1
  have e17 : mi m 0 17 = mi m 86 21 := h.1.2.2.1.1
  refine (cr_worth h.1 h.1.hx ht1 ht2 hs1 hs2 hn1 hn2).mono (fun r N2 q => ?_)
  by_cases c : ((0 ≤ t ∧ t < mi m 0 16) ∧ mi m (bx m t) 1 = 1) ∧ (0 ≤ fs ∧ z_ishr fs (mi m 0 17) = 0) ∧ 1 ≤ n ∧ n ≤ 200
  · have K := h.1.2.1.2 t c.1.1.1 (by rw [← e16]; exact c.1.1.2)
    have kd : mi m (bx m t) 1 = mi m 87 t.toNat := K.1.2.2.1.2
    have tw : mi m (bx m t) 5 = mi m 90 t.toNat := K.2
    have r90 := h.i.a 90 (-1) 5 (by decide) t.toNat
    by_cases y : mi m (bx m t) 5 < 0
    · obtain ⟨e2, e1⟩ := (q.1 c).1 y
      rw [e1]
      refine ⟨_, e2, rfl, h.1.1.1.1.1.1.1, (ct_X12_worth h.1.1.1.1 ht1 ht2 hs1 hs2 hn1 hn2).mono (fun r2 m2 p => ?_)⟩
      have e : worR m t fs n = (-5, m) := by
        unfold worR
        rw [if_pos ⟨by rw [← e16]; exact c.1.1, by rw [← kd]; exact c.1.2, by rw [← e17]; exact c.2.1, c.2.2⟩, if_pos (by rw [← tw]; exact y)]
      rw [e] at p
      exact ⟨p.1, h.same p.2⟩
    · obtain ⟨hc, hQ, e2⟩ := (q.1 c).2 (by omega)
      refine ⟨_, e2, rfl, hQ.1.1.1.1.1.1, (ct_X12_worth hQ.1.1.1 ht1 ht2 hs1 hs2 hn1 hn2).mono (fun r2 m2 p => ?_)⟩
      have f1 : mi N2 86 1 = mi m 86 1 := hc.2.1 86 1 (by decide) (by decide)
      have f21 : mi N2 86 21 = mi m 86 21 := hc.2.1 86 21 (by decide) (by decide)
      have f17 : mi N2 0 17 = mi m 0 17 := hc.1.2.2.1 0 17 (by unfold NQ; omega)
      have f87 : mi N2 87 t.toNat = mi m 87 t.toNat := hc.2.1 87 _ (by decide) (by decide)
      have f90 : mi N2 90 t.toNat = mi m 90 t.toNat := hc.2.1 90 _ (by decide) (by decide)
      have e : worR N2 t fs n = wrL t (mi m 90 t.toNat) fs n (mi m 0 17).toNat 0 0 (aiM N2) := by
        unfold worR
        rw [f1, f87, f21, f90, ← e16, ← e17, if_pos ⟨c.1.1, by rw [← kd]; exact c.1.2, c.2.1, c.2.2⟩, if_neg (by omega)]
      have h17 := h.i.s 0 17 0 8 (by decide)
      have s := wr_sem (M := N2) (t := t) (x := mi m 90 t.toNat) (fs := fs) (n := n) hQ (by omega) (by omega) c.2.2 (mi m 0 17).toNat 0 0 (aiM N2) (GS.mk2 hQ) (by omega) (by decide)
      rw [e, s.1, hc.1.wn, zWo_cg (nf := mi m 0 17) (fun f f0 f1 => Fm_cu h.1 hc ⟨f0, f1⟩) _ _ _ (by omega) (by decide)] at p
      exact ⟨by rw [p.1, tw], (h.both hc hQ s.2.1 s.2.2.1).same p.2⟩
  · obtain ⟨e2, e1⟩ := q.2 c
    rw [e1]
    refine ⟨_, e2, rfl, h.1.1.1.1.1.1.1, (ct_X12_worth h.1.1.1.1 ht1 ht2 hs1 hs2 hn1 hn2).mono (fun r2 m2 p => ?_)⟩
    have e : worR m t fs n = (-1, m) := by
      unfold worR
      rw [if_neg]
      rintro ⟨a, b, d, g⟩
      have K := h.1.2.1.2 t a.1 a.2
      have kd : mi m (bx m t) 1 = mi m 87 t.toNat := K.1.2.2.1.2
      exact c ⟨⟨by rw [e16]; exact a, by rw [kd]; exact b⟩, by rw [e17]; exact d, g⟩
    rw [e] at p
    exact ⟨p.1, h.same p.2⟩

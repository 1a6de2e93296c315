/-! fewest(): the same answer -/
theorem db_sp {f : Nat} {g : Nat → Int} : ∀ (c : Nat) (b : Int) (N : AM), 0 ≤ b → (∀ j : Nat, (j : Int) < b + c → (mi N 111 j ≠ 0 ↔ g j ≠ 0)) → mi N 132 f = orL g b.toNat → mi (dbL f c b N) 132 f = orL g (b + c).toNat := by
  intro c
  induction c with
  | zero =>
    intro b N _ _ h
    rw [show b + ((0 : Nat) : Int) = b by omega]
    exact h
  | succ c ih =>
    intro b N hb hg h
    rw [show b + ((c + 1 : Nat) : Int) = b + 1 + (c : Int) by omega]
    have r := orL_rng g b.toNat
    have eb : ((b.toNat : Nat) : Int) = b := by omega
    unfold dbL
    refine ih (b + 1) _ (by omega) (fun j hj => ?_) ?_
    · rw [← hg j (by omega)]
      split
      · rw [mi_si_ne _ _ (by omega)]
      · exact Iff.rfl
    · rw [orL_up hb]
      have q := hg b.toNat (by omega)
      by_cases z : g b.toNat ≠ 0
      · rw [if_pos z, if_pos (q.mpr z), mi_si_same _ _ _ (z_ior_rng _ _).1 (z_ior_rng _ _).2, h]
      · rw [if_neg z, if_neg (fun w => z (q.mp w))]
        exact h
theorem GS.put {M N : AM} {f : Nat} (g : GS M N) {K : AM} (h : only132 f N K) : GS M K := by
  obtain ⟨a, b, c, d, e⟩ := g
  refine ⟨a.dead h, b.trans ⟨h.1, fun o _ => by rw [h.2.1], fun o j x y z => h.2.2 o j (Or.inl (by omega))⟩, ?_, ?_, ?_⟩
  · rw [h.cell (Or.inl (by decide))]; exact c
  · rw [h.cell (Or.inl (by decide))]; exact d
  · rw [h.cell (Or.inl (by decide))]; exact e
theorem fw_sem {M : AM} {fs n : Int} (hQ : QR M) (hn : 1 ≤ n ∧ n ≤ 200) : ∀ (c : Nat) (f a : Int) (N : AM), GS M N → f + c = mi M 0 17 → 0 ≤ f → (∀ j : Nat, (j : Int) < f → mi N 132 j = zKl (wN M) (Fm M) fs n j) → GS M (fwL fs n (mi M 86 1) c f a N).2 ∧ ∀ j : Nat, (j : Int) < mi M 0 17 → mi (fwL fs n (mi M 86 1) c f a N).2 132 j = zKl (wN M) (Fm M) fs n j := by
  have h16 := hQ.i.s 86 1 0 6 (by decide)
  intro c
  induction c with
  | zero => intro f a N g hc hf h; exact ⟨g, fun j hj => h j (by omega)⟩
  | succ c ih =>
    intro f a N g hc hf h
    have ef : ((f.toNat : Nat) : Int) = f := by omega
    by_cases z : z_iand (z_ishr fs f) 1 = 0
    · rw [show fwL fs n (mi M 86 1) (c + 1) f a N = fwL fs n (mi M 86 1) c (f + 1) a (si N 132 f.toNat 0) from if_pos z]
      refine ih _ _ _ (g.put (only132.put _ _ _)) (by omega) (by omega) (fun j hj => ?_)
      by_cases y : j = f.toNat
      · rw [y, mi_si_same _ _ _ (by decide) (by decide)]
        unfold zKl
        rw [ef, if_neg (by omega)]
      · rw [mi_si_ne _ _ (by omega)]
        exact h j (by omega)
    · have z1 : z_iand (z_ishr fs f) 1 = 1 := by
        have := and_one (z_ishr fs f)
        split at this
        · exact this
        · exact absurd this z
      rw [show fwL fs n (mi M 86 1) (c + 1) f a N = fwL fs n (mi M 86 1) c (f + 1) (z_ior a (mi (dbL f.toNat (mi M 86 1).toNat 0 (roM (si N 132 f.toNat 0) f n)) 132 f.toNat)) (dbL f.toNat (mi M 86 1).toNat 0 (roM (si N 132 f.toNat 0) f n)) from if_neg z]
      have g1 : GS M (si N 132 f.toNat 0) := g.put (only132.put _ _ _)
      obtain ⟨g2, j2⟩ := g1.run (f := f) hQ (by omega) hn
      have u : ∀ j, mi (roM (si N 132 f.toNat 0) f n) 132 j = mi (si N 132 f.toNat 0) 132 j := fun j => ((FR.rf _).run f n).cell (by omega) (by omega)
      have o := dbL_only f.toNat (mi M 86 1).toNat 0 _ _ (only132.rf f.toNat (roM (si N 132 f.toNat 0) f n))
      refine ih _ _ _ (g2.put o) (by omega) (by omega) (fun j hj => ?_)
      by_cases y : j = f.toNat
      · rw [y]
        have q := db_sp (f := f.toNat) (g := (zwFull (wN M) (Fm M f) n).fa) (mi M 86 1).toNat 0 (roM (si N 132 f.toNat 0) f n) (by decide) (fun j hj => ?_) (by rw [u, mi_si_same _ _ _ (by decide) (by decide)]; rfl)
        · rw [q]
          unfold zKl
          rw [ef, if_pos z1, dead_nb (W := wN M) h16]
          rw [show (0 : Int) + (((mi M 86 1).toNat : Nat) : Int) = mi M 86 1 by omega]
          rfl
        · have d := j2.dead (b := (j : Int)) (by omega)
          rw [Int.toNat_natCast] at d
          exact d
      · rw [o.cell (Or.inr y), u, mi_si_ne _ _ (by omega)]
        exact h j (by omega)
theorem few_ok {M : AM} {fs n what : Int} (hQ : QR M) (hfs : fs < 2147483648) (hc : (0 ≤ fs ∧ z_ishr fs (mi M 0 17) = 0) ∧ (1 ≤ n ∧ n ≤ 200) ∧ 0 ≤ what ∧ what ≤ 1) : (fewR M fs n what).1 = (if what = 0 then bcX (zFw (wN M) (Fm M) (mi M 0 17) fs n) else zFw (wN M) (Fm M) (mi M 0 17) fs n) ∧ RI (fewR M fs n what).2 ∧ FQ M (fewR M fs n what).2 := by
  have e17 : mi M 0 17 = mi M 86 21 := hQ.2.2.1.1
  have h17 := hQ.i.s 0 17 0 8 (by decide)
  have e : fewR M fs n what = (if what = 0 then bcX (fewQ M fs n) else fewQ M fs n, (fewE M fs n).2) := if_pos (by rw [← e17]; exact hc)
  rw [e]
  obtain ⟨s1, s2⟩ := fw_sem (fs := fs) hQ hc.2.1 (mi M 86 21).toNat 0 0 (aiM M) (GS.mk2 hQ) (by omega) (by decide) (fun j hj => by omega)
  have k := fwL_kb (fs := fs) (n := n) (B := mi M 86 1) (mi M 86 21).toNat 0 0 (aiM M) (by decide) rfl
  have s1 : GS M (fewE M fs n).2 := s1
  have s2 : ∀ j : Nat, (j : Int) < mi M 0 17 → mi (fewE M fs n).2 132 j = zKl (wN M) (Fm M) fs n j := s2
  have k : (fewE M fs n).1 = kbL (fewE M fs n).2 fs ((0 : Int) + ((mi M 86 21).toNat : Nat)).toNat := k
  rw [show (0 : Int) + (((mi M 86 21).toNat : Nat) : Int) = mi M 0 17 by omega, kbL_G (g := zKl (wN M) (Fm M) fs n) _ (fun j hj => s2 j (by omega))] at k
  have q : fewQ M fs n = zFw (wN M) (Fm M) (mi M 0 17) fs n := by
    unfold fewQ zFw
    rw [k, ← e17]
    refine few_same h17 hc.1.1 ?_ s2
    have w := hc.1.2
    rw [show mi M 0 17 = (((mi M 0 17).toNat : Nat) : Int) by omega] at w
    exact shr_zero hc.1.1 hfs (by omega) w
  rw [q]
  exact ⟨rfl, s1.1, s1.2.1⟩
theorem zKl_cg {W : ZW} {F F' : Int → Int → Nat → Int} {fs n nf : Int} (e : ∀ f, 0 ≤ f → f < nf → F f = F' f) {j : Nat} (hj : (j : Int) < nf) : zKl W F fs n j = zKl W F' fs n j := by
  unfold zKl
  rw [e j (by omega) hj]
theorem zFw_cg {W : ZW} {F F' : Int → Int → Nat → Int} {fs n nf : Int} (h0 : 0 ≤ nf) (e : ∀ f, 0 ≤ f → f < nf → F f = F' f) : zFw W F nf fs n = zFw W F' nf fs n := by
  unfold zFw
  rw [kbG_cg (g' := zKl W F' fs n) nf.toNat (fun j hj => zKl_cg e (by omega)), ffO_cg h0 (g' := zKl W F' fs n) (fun j hj => zKl_cg e hj)]
theorem ag_fewest {G : QW} {m : AM} {fs n what : Int} (h : Inv m) (hs1 : -2147483648 ≤ fs) (hs2 : fs < 2147483648) (hn1 : -2147483648 ≤ n) (hn2 : n < 2147483648) (hw1 : -2147483648 ≤ what) (hw2 : what < 2147483648) : AG G mX11_fewest mX12_fewest 6 9 0 0 [vI fs, vI n, vI what] m := by
  have e17 : mi m 0 17 = mi m 86 21 := h.1.2.2.1.1
  have h17 := h.i.s 0 17 0 8 (by decide)
  refine (cr_fewest h.1 hs1 hs2 hn1 hn2 hw1 hw2).mono (fun r N2 q => ?_)
  by_cases c : (0 ≤ fs ∧ z_ishr fs (mi m 0 17) = 0) ∧ (1 ≤ n ∧ n ≤ 200) ∧ 0 ≤ what ∧ what ≤ 1
  · obtain ⟨hc, hQ, e2⟩ := q.1 c
    refine ⟨_, e2, rfl, hQ.1.1.1.1.1.1, (ct_X12_fewest hQ.1.1.1 hs1 hs2 hn1 hn2 hw1 hw2).mono (fun r2 m2 p => ?_)⟩
    have f17 : mi N2 0 17 = mi m 0 17 := hc.1.2.2.1 0 17 (by unfold NQ; omega)
    obtain ⟨s1, s2, s3⟩ := few_ok (fs := fs) (n := n) (what := what) hQ hs2 (by rw [f17]; exact c)
    rw [f17, hc.1.wn, zFw_cg h17.1 (fun f f0 f1 => Fm_cu h.1 hc ⟨f0, f1⟩)] at s1
    exact ⟨by rw [p.1, s1], (h.both hc hQ s2 s3).same p.2⟩
  · obtain ⟨e2, e1⟩ := q.2 c
    rw [e1]
    refine ⟨_, e2, rfl, h.1.1.1.1.1.1.1, (ct_X12_fewest h.1.1.1.1 hs1 hs2 hn1 hn2 hw1 hw2).mono (fun r2 m2 p => ?_)⟩
    have e : fewR m fs n what = (-1, m) := if_neg (by rw [← e17]; exact c)
    rw [e] at p
    exact ⟨p.1, h.same p.2⟩

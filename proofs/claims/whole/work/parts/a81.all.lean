/-! all(): the same answer, the same beginning -/
theorem Inv.mix {m M N : AM} (h : Inv m) (hF : AllF m M) (hRA : RA N) (hq : QU M N) (e2 : N.2.2 = M.2.2) (el : ∀ c j, c < 86 → mi N c j = mi M c j) (e8 : ∀ c j : Nat, (c = 86 ∧ (j = 50 ∨ j = 51)) ∨ (116 ≤ c ∧ c ≤ 122) → mi N c j = mi M c j) (k9 : K9 N) : Inv N := by
  refine ⟨hF.1.rw2 hRA hq e2 el, h.2.qu h.1 (hF.2.1.trans hq) (h.k8.fr (fun c j hc => ?_)) k9⟩
  by_cases z : c < 86
  · rw [el c j z]
    exact hF.2.2.2.2 c j (by omega)
  · rw [e8 c j (by omega)]
    exact hF.2.2.1 c j (by omega) (by omega)
theorem gA_cu {m M : AM} (hq : QU m M) (e : ∀ c j : Nat, 86 ≤ c → c ≤ 144 → mi M c j = mi m c j) (f n a b c : Int) : gA M f n a b c = gA m f n a b c := by
  have ef : fbF M f a b c = fbF m f a b c := by
    funext t j
    unfold fbF
    rw [held_m m M, e 102 _ (by decide) (by decide), e 103 _ (by decide) (by decide)]
  unfold gA
  rw [ef, hq.wn]
theorem lo_cu {m M : AM} (e : ∀ c j : Nat, 86 ≤ c → c ≤ 144 → mi M c j = mi m c j) : loS M = loS m ∧ hiS M = hiS m ∧ wdX M = wdX m := by
  refine ⟨?_, ?_, ?_⟩
  · funext k j
    exact e 123 _ (by decide) (by decide)
  · funext k j
    exact e 124 _ (by decide) (by decide)
  · funext k
    unfold wdX
    rw [e 123 _ (by decide) (by decide), e 124 _ (by decide) (by decide)]
theorem inS_cu {m M : AM} (e : ∀ c j : Nat, 86 ≤ c → c ≤ 144 → mi M c j = mi m c j) (k a b c : Int) : inS M k a b c = inS m k a b c := by
  unfold inS
  rw [(lo_cu e).1, (lo_cu e).2.1]
theorem ixS_cu {m M : AM} (e : ∀ c j : Nat, 86 ≤ c → c ≤ 144 → mi M c j = mi m c j) (k a b c : Int) : ixS M k a b c = ixS m k a b c := by
  unfold ixS
  rw [(lo_cu e).1, (lo_cu e).2.2]
theorem finM_v {N : AM} {a b c : Int} (ha : -99999 ≤ a ∧ a ≤ 99999) (hb : -99999 ≤ b ∧ b ≤ 99999) (hc : -99999 ≤ c ∧ c ≤ 99999) : mi (finM N a b c) 125 0 = a ∧ mi (finM N a b c) 125 1 = b ∧ mi (finM N a b c) 125 2 = c ∧ mi (finM N a b c) 86 62 = 1 ∧ ∀ o j : Nat, ¬ (o = 125 ∧ j < 3) → ¬ (o = 86 ∧ j = 62) → mi (finM N a b c) o j = mi N o j := by
  unfold finM
  refine ⟨?_, ?_, ?_, mi_si_same _ _ _ (by decide) (by decide), fun o j h1 h2 => ?_⟩
  · rw [mi_si_ne _ _ (by omega), mi_si_ne _ _ (by omega), mi_si_ne _ _ (by omega), mi_si_same _ _ _ (by omega) (by omega)]
  · rw [mi_si_ne _ _ (by omega), mi_si_ne _ _ (by omega), mi_si_same _ _ _ (by omega) (by omega)]
  · rw [mi_si_ne _ _ (by omega), mi_si_same _ _ _ (by omega) (by omega)]
  · rw [mi_si_ne _ _ (by omega), mi_si_ne _ _ (by omega), mi_si_ne _ _ (by omega), mi_si_ne _ _ (by omega)]
theorem finM_ra {N : AM} {a b c : Int} (h : RA N) (hI : IM N) (hS : St N) (ha : -99999 ≤ a ∧ a ≤ 99999) (hb : -99999 ≤ b ∧ b ≤ 99999) (hc : -99999 ≤ c ∧ c ≤ 99999) : RA (finM N a b c) := by
  have v := (finM_v (N := N) ha hb hc).2.2.2.2
  have i1 : IM (si N 125 0 a) := hI.cell (-99999) 99999 (fun q hq e _ => by revert q; decide) (by decide) ha (by omega) (by decide) (by decide) (by intro j hj; omega) (by decide)
  have i2 : IM (si (si N 125 0 a) 125 1 b) := i1.cell (-99999) 99999 (fun q hq e _ => by revert q; decide) (by decide) hb (by omega) (by decide) (by decide) (by intro j hj; omega) (by decide)
  have i3 : IM (si (si (si N 125 0 a) 125 1 b) 125 2 c) := i2.cell (-99999) 99999 (fun q hq e _ => by revert q; decide) (by decide) hc (by omega) (by decide) (by decide) (by intro j hj; omega) (by decide)
  have i4 : IM (finM N a b c) := i3.scal 0 1 (by decide) (by decide) (by decide) (by decide) (by decide) (by decide) (by intro j hj; omega) (by decide)
  refine h.fr (shc_st hS rfl) i4 (fun o j ho => v o j ?_ ?_)
  · rintro ⟨z1, z2⟩
    have g : o ∈ riL → o ≠ 125 := fun z => (by decide : ∀ c ∈ riL, c ≠ 125) o z
    rcases ho with q | q | q | q | q | q
    · exact g q z1
    all_goals omega
  · rintro ⟨z1, z2⟩
    have g : o ∈ riL → o ≠ 86 := fun z => (by decide : ∀ c ∈ riL, c ≠ 86) o z
    rcases ho with q | q | q | q | q | q
    · exact g q z1
    all_goals omega
theorem finM_qu {M N : AM} {a b c : Int} (h : QU M N) (ha : -99999 ≤ a ∧ a ≤ 99999) (hb : -99999 ≤ b ∧ b ≤ 99999) (hc : -99999 ≤ c ∧ c ≤ 99999) : QU M (finM N a b c) := ⟨h.1, h.2.1, fun o j ho => by
  rw [(finM_v (N := N) ha hb hc).2.2.2.2 o j (by unfold NQ at ho; omega) (by unfold NQ at ho; omega)]
  exact h.2.2.1 o j ho, h.2.2.2⟩
theorem all_ok {m M : AM} {k f n : Int} {r : Option Vl} (h : Inv m) (hk : 0 ≤ k ∧ k ≤ 1) (hf : 0 ≤ f ∧ f < mi m 0 17) (hn : 1 ≤ n ∧ n ≤ 200) (hm : ¬ manyS m k > 2000) (hA : AllA m k f n r M) : r = some (vI (allR M k f n).1) ∧ RI M ∧ (∀ j : Int, 0 ≤ j → j ≤ 5 → mi M 123 j.toNat ≤ mi M 124 j.toNat) ∧ Inv (allR M k f n).2 := by
  obtain ⟨hF, hA⟩ := hA
  have hQ := hF.1
  have e := hF.2.2.1
  have e17 : mi m 0 17 = mi m 86 21 := h.1.2.2.1.1
  have f21 : mi M 86 21 = mi m 86 21 := e 86 21 (by decide) (by decide)
  have em : manyS M k = manyS m k := by
    unfold manyS
    rw [(lo_cu e).2.2]
  have g : allR M k f n = (if (alE M k f n).1 ≠ 0 then (alE M k f n).2.1 else -2, (alE M k f n).2.2) := by
    unfold allR
    rw [if_pos ⟨hk, by rw [f21, ← e17]; exact hf, hn⟩, em, if_neg hm]
  rw [g]
  have ei := inS_cu e
  have ea := gA_cu hF.2.1 e
  have k9 := h.k9
  have b62 : mi M 86 62 = mi m 86 62 := e 86 62 (by decide) (by decide)
  have b125 : ∀ j, mi M 125 j = mi m 125 j := fun j => e 125 j (by decide) (by decide)
  refine ⟨?_, hQ.1.1.1, hQ.1.1.2.2, ?_⟩
  · rcases alE_sem hQ hk (by omega) hn.2 (f := f) with ⟨s1, s2, s3⟩ | ⟨s1, a, b, c, s2, s3, s4, s5, -⟩
    · rcases hA with ⟨a, b, c, t1, t2, -⟩ | ⟨t1, t2, -⟩
      · exact absurd (by rw [ea]; exact t2) (s2 a b c (by rw [ei]; exact t1))
      · show r = some (vI (if (alE M k f n).1 ≠ 0 then (alE M k f n).2.1 else -2))
        rw [if_neg (fun z => z s1)]
        exact t2
    · rw [ei] at s2
      rw [ea] at s3
      rcases hA with ⟨a', b', c', t1, t2, t3, t4, -⟩ | ⟨t1, -⟩
      · show r = some (vI (if (alE M k f n).1 ≠ 0 then (alE M k f n).2.1 else -2))
        rw [if_pos s1, t4, s5, ixS_cu e]
        have d : DoneS m k f n a b c := fun x y z i l => by
          have := s4 x y z (by rw [ei]; exact i) l
          rw [ea] at this
          exact this
        obtain ⟨rfl, rfl, rfl⟩ := first_one s2 s3 d t1 t2 t3
        rfl
      · exact absurd s3 (t1 a b c s2)
  · show Inv (alE M k f n).2.2
    rcases alE_sem hQ hk (by omega) hn.2 (f := f) with ⟨s1, s2, s3⟩ | ⟨s1, a, b, c, s2, s3, s4, s5, N', s6, s7⟩
    · rcases hA with ⟨a, b, c, t1, t2, -⟩ | ⟨t1, t2, t3, t4⟩
      · exact absurd (by rw [ea]; exact t2) (s2 a b c (by rw [ei]; exact t1))
      · generalize (alE M k f n).2.2 = N at s3
        obtain ⟨r1, q1, -⟩ := s3
        have lo : ∀ c j, c < 86 → mi N c j = mi M c j := fun c j hc => q1.cell (by omega) (by omega) (by omega)
        refine h.mix hF (hQ.1.mv r1 q1) q1.qu q1.1 lo (fun c j hc => q1.cell (by omega) (by omega) (by omega)) ⟨?_, fun j hj => ?_⟩
        · rw [lo 0 19 (by decide), t4, q1.cell (by decide) (by decide) (by decide), b62]
          exact k9.1
        · rw [lo 57 j (by decide), t3, q1.cell (by omega) (by omega) (by omega), b125]
          exact k9.2 j hj
    · rw [ei] at s2
      rw [ea] at s3
      rcases hA with ⟨a', b', c', t1, t2, t3, -, t5, t6⟩ | ⟨t1, -⟩
      · have d : DoneS m k f n a b c := fun x y z i l => by
          have := s4 x y z (by rw [ei]; exact i) l
          rw [ea] at this
          exact this
        obtain ⟨rfl, rfl, rfl⟩ := first_one s2 s3 d t1 t2 t3
        rw [s7]
        obtain ⟨r1, q1, -⟩ := s6
        have l0 := lo_r h.i k 0
        have l1 := lo_r h.i k 1
        have l2 := lo_r h.i k 2
        unfold inS at s2
        have ha : -99999 ≤ a ∧ a ≤ 99999 := by omega
        have hb : -99999 ≤ b ∧ b ≤ 99999 := by omega
        have hc : -99999 ≤ c ∧ c ≤ 99999 := by omega
        obtain ⟨v0, v1, v2, v3, v⟩ := finM_v (N := N') ha hb hc
        have lo : ∀ p j, p < 86 → mi (finM N' a b c) p j = mi M p j := fun p j hp => by
          rw [v p j (by omega) (by omega)]
          exact q1.cell (by omega) (by omega) (by omega)
        have raN := hQ.1.mv r1 q1
        refine h.mix hF (finM_ra raN r1.i r1.s ha hb hc) (finM_qu q1.qu ha hb hc) (show N'.2.2 = M.2.2 from q1.1) lo (fun p j hp => ?_) ⟨?_, fun j hj => ?_⟩
        · rw [v p j (by omega) (by omega)]
          exact q1.cell (by omega) (by omega) (by omega)
        · rw [lo 0 19 (by decide), t6, v3]
        · rw [lo 57 j (by decide)]
          rcases (by omega : j = 0 ∨ j = 1 ∨ j = 2) with rfl | rfl | rfl
          · rw [t5.1, v0]
          · rw [t5.2.1, v1]
          · rw [t5.2.2, v2]
      · exact absurd s3 (t1 a b c s2)
theorem ag_all {G : QW} {m : AM} {k f n : Int} (h : Inv m) (hk1 : -2147483648 ≤ k) (hk2 : k < 2147483648) (hf1 : -2147483648 ≤ f) (hf2 : f < 2147483648) (hn1 : -2147483648 ≤ n) (hn2 : n < 2147483648) : AG G mX11_all mX12_all 8 10 0 0 [vI k, vI f, vI n] m := by
  have e17 : mi m 0 17 = mi m 86 21 := h.1.2.2.1.1
  refine (cr_all h.1 h.k3 h.k4 h.kt hk1 hk2 hf1 hf2 hn1 hn2).mono (fun r N2 q => ?_)
  by_cases c : (0 ≤ k ∧ k ≤ 1) ∧ (0 ≤ f ∧ f < mi m 0 17) ∧ 1 ≤ n ∧ n ≤ 200
  · by_cases y : manyS m k > 2000
    · obtain ⟨e2, e1⟩ := (q.1 c).1 y
      rw [e1]
      refine ⟨_, e2, rfl, h.1.1.1.1.1.1.1, (ct_X12_all h.1.1.1.1 h.1.1.1.2.2 hk1 hk2 hf1 hf2 hn1 hn2).mono (fun r2 m2 p => ?_)⟩
      have e : allR m k f n = (-4, m) := by
        unfold allR
        rw [if_pos ⟨c.1, by rw [← e17]; exact c.2.1, c.2.2⟩, if_pos y]
      rw [e] at p
      exact ⟨p.1, h.same p.2⟩
    · obtain ⟨s1, s2, s3, s4⟩ := all_ok h c.1 c.2.1 c.2.2 y ((q.1 c).2 y)
      exact ⟨_, s1, rfl, s2.1.1.1, (ct_X12_all s2 s3 hk1 hk2 hf1 hf2 hn1 hn2).mono (fun r2 m2 p => ⟨p.1, s4.same p.2⟩)⟩
  · obtain ⟨e2, e1⟩ := q.2 c
    rw [e1]
    refine ⟨_, e2, rfl, h.1.1.1.1.1.1.1, (ct_X12_all h.1.1.1.1 h.1.1.1.2.2 hk1 hk2 hf1 hf2 hn1 hn2).mono (fun r2 m2 p => ?_)⟩
    have e : allR m k f n = (-1, m) := if_neg (by rw [← e17]; exact c)
    rw [e] at p
    exact ⟨p.1, h.same p.2⟩

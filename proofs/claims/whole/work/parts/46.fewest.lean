/-- the dead of one flight, from box b on -/
def dbL (f : Nat) : Nat → Int → AM → AM
  | 0, _, N => N
  | c + 1, b, N => dbL f c (b + 1) (if mi N 111 b.toNat ≠ 0 then si N 132 f (z_ior (mi N 132 f) (z_ishl 1 b)) else N)
/-- flights from f on: all dead so far, the memory -/
def fwL (fs n B : Int) : Nat → Int → Int → AM → Int × AM
  | 0, _, a, N => (a, N)
  | c + 1, f, a, N =>
    if z_iand (z_ishr fs f) 1 = 0 then fwL fs n B c (f + 1) a (si N 132 f.toNat 0)
    else fwL fs n B c (f + 1) (z_ior a (mi (dbL f.toNat B.toNat 0 (roM (si N 132 f.toNat 0) f n)) 132 f.toNat)) (dbL f.toNat B.toNat 0 (roM (si N 132 f.toNat 0) f n))
/-- the dead of a set of flights -/
def kbL (N : AM) (x : Int) : Nat → Int
  | 0 => 0
  | k + 1 => if z_iand (z_ishr x k) 1 = 1 then z_ior (kbL N x k) (mi N 132 k) else kbL N x k
/-- the best set, from s on -/
def fbL (N : AM) (fs F any : Int) : Nat → Int → Int → Int
  | 0, _, q => q
  | c + 1, s, q =>
    if z_iand s (z_ixor fs (-1)) ≠ 0 ∨ (q ≥ 0 ∧ bcX s ≥ bcX q) then fbL N fs F any c (s + 1) q
    else if kbL N s F.toNat = any then fbL N fs F any c (s + 1) s else fbL N fs F any c (s + 1) q
def fewE (m : AM) (fs n : Int) : Int × AM := fwL fs n (mi m 86 1) (mi m 86 21).toNat 0 0 (aiM m)
def fewQ (m : AM) (fs n : Int) : Int := fbL (fewE m fs n).2 fs (mi m 86 21) (fewE m fs n).1 (z_ishl 1 (mi m 86 21)).toNat 0 (-1)
/-- fewest() of the reference -/
def fewR (m : AM) (fs n what : Int) : Int × AM :=
  if (0 ≤ fs ∧ z_ishr fs (mi m 86 21) = 0) ∧ (1 ≤ n ∧ n ≤ 200) ∧ (0 ≤ what ∧ what ≤ 1) then (if what = 0 then bcX (fewQ m fs n) else fewQ m fs n, (fewE m fs n).2) else (-1, m)
theorem kbL_rng (N : AM) (x : Int) : ∀ k : Nat, -2147483648 ≤ kbL N x k ∧ kbL N x k < 2147483648 := by
  intro k
  induction k with
  | zero => exact (by decide : -2147483648 ≤ (0 : Int) ∧ (0 : Int) < 2147483648)
  | succ k ih =>
    unfold kbL
    split
    · exact z_ior_rng _ _
    · exact ih
theorem kbL_eq {N M : AM} (x : Int) : ∀ k : Nat, (∀ j : Nat, j < k → mi M 132 j = mi N 132 j) → kbL M x k = kbL N x k := by
  intro k
  induction k with
  | zero => intro _; rfl
  | succ k ih =>
    intro h
    simp only [kbL, ih (fun j hj => h j (by omega)), h k (by omega)]
theorem kbL_same {N M : AM} (h : SameP N M) (x : Int) (k : Nat) : kbL M x k = kbL N x k := kbL_eq x k (fun j _ => h.mi 132 j)
theorem kbL_up {N : AM} {x s : Int} (h : 0 ≤ s) : kbL N x (s + 1).toNat = if z_iand (z_ishr x s) 1 = 1 then z_ior (kbL N x s.toNat) (mi N 132 s.toNat) else kbL N x s.toNat := by
  rw [show (s + 1).toNat = s.toNat + 1 by omega]
  have e : (s.toNat : Int) = s := by omega
  show (if z_iand (z_ishr x (s.toNat : Int)) 1 = 1 then z_ior (kbL N x s.toNat) (mi N 132 s.toNat) else kbL N x s.toNat) = _
  rw [e]
/-- only place f of row 132 is changed -/
def only132 (f : Nat) (m N : AM) : Prop := N.2.2 = m.2.2 ∧ N.2.1 = m.2.1 ∧ ∀ o j : Nat, (o ≠ 132 ∨ j ≠ f) → N.1 o j = m.1 o j
theorem dbL_only (f : Nat) : ∀ (c : Nat) (b : Int) (m N : AM), only132 f m N → only132 f m (dbL f c b N) := by
  intro c
  induction c with
  | zero => intro b m N h; exact h
  | succ c ih =>
    intro b m N h
    refine ih _ _ _ ?_
    split
    · refine ⟨h.1, h.2.1, fun o j hoj => ?_⟩
      show (if o = 132 ∧ j = f then z_ior (mi N 132 f) (z_ishl 1 b) else N.1 o j) = m.1 o j
      rw [if_neg (by omega)]
      exact h.2.2 o j hoj
    · exact h
theorem only132.cell {f : Nat} {m N : AM} (h : only132 f m N) {o j : Nat} (hoj : o ≠ 132 ∨ j ≠ f) : mi N o j = mi m o j := by
  show (zi (N.1 o j)).toInt = (zi (m.1 o j)).toInt
  rw [h.2.2 o j hoj]
theorem St.sub {m N : AM} (h : N.2.2 = m.2.2) (hS : St m) : St N := by
  unfold St mz mk mn mr at *
  rw [h]
  exact hS
theorem IM.row {m N : AM} (h : IM m) (o1 : Nat) (he : ∀ o j : Nat, o ≠ o1 → mi N o j = mi m o j) (hA : ∀ q ∈ imA, q.1 ≠ o1) (hS : ∀ q ∈ imS, q.1 ≠ o1) (h3 : 139 ≠ o1) (h4 : 86 ≠ o1) (h5 : ∀ j : Nat, j < 6 → 68 + 3 * j ≠ o1) (h6 : 0 ≠ o1) : IM N := by
  refine ⟨fun q hq => ?_, fun q hq j => ?_, fun j hj => ?_⟩
  · rw [he _ _ (hS q hq)]
    exact h.1 q hq
  · rw [he _ _ (hA q hq)]
    exact h.2.1 q hq j
  · rw [he _ _ h3, he _ _ h4, he _ _ (h5 j hj), he _ _ h6]
    exact h.2.2 j hj
theorem RI.row {m N : AM} (h : RI m) (o1 : Nat) (h2 : N.2.2 = m.2.2) (he : ∀ o j : Nat, o ≠ o1 → mi N o j = mi m o j) (hA : ∀ q ∈ imA, q.1 ≠ o1) (hS : ∀ q ∈ imS, q.1 ≠ o1) (h3 : 139 ≠ o1) (h4 : 86 ≠ o1) (h5 : ∀ j : Nat, j < 6 → 68 + 3 * j ≠ o1) (h6 : 0 ≠ o1) (h7 : o1 ∉ riL) : RI N :=
  h.ext (h.s.sub h2) (h.i.row o1 he hA hS h3 h4 h5 h6) (fun o ho j => he o j (fun q => h7 (by rw [← q]; exact ho))) (fun k _ => he 86 k h4)
theorem RI.dead {m N : AM} {f : Nat} (h : RI m) (ho : only132 f m N) : RI N :=
  h.row 132 ho.1 (fun o j hj => ho.cell (Or.inl hj)) (by decide) (by decide) (by decide) (by decide) (by omega) (by decide) (by decide)
theorem only132.put (f : Nat) (m : AM) (v : Int) : only132 f m (si m 132 f v) := ⟨rfl, rfl, fun o j hoj => by
  show (if o = 132 ∧ j = f then v else m.1 o j) = m.1 o j
  rw [if_neg (by omega)]⟩
theorem dbL_same (f : Nat) : ∀ (c : Nat) (b : Int) (N M : AM), SameP N M → SameP (dbL f c b N) (dbL f c b M) := by
  intro c
  induction c with
  | zero => intro b N M h; exact h
  | succ c ih =>
    intro b N M h
    refine ih _ _ _ ?_
    rw [h.mi 111, h.mi 132]
    split
    · exact h.si _ _ _
    · exact h
theorem only132.rf (f : Nat) (m : AM) : only132 f m m := ⟨rfl, rfl, fun _ _ _ => rfl⟩
theorem fwL_kb {fs n B : Int} : ∀ (c : Nat) (f a : Int) (N : AM), 0 ≤ f → a = kbL N fs f.toNat → (fwL fs n B c f a N).1 = kbL (fwL fs n B c f a N).2 fs (f + c).toNat := by
  intro c
  induction c with
  | zero =>
    intro f a N h0 h
    show a = kbL N fs (f + ((0 : Nat) : Int)).toNat
    rw [h, show f + ((0 : Nat) : Int) = f by omega]
  | succ c ih =>
    intro f a N h0 h
    simp only [fwL]
    rw [show f + ((c + 1 : Nat) : Int) = (f + 1) + (c : Int) by omega]
    split
    · next hz =>
      refine ih _ _ _ (by omega) ?_
      rw [kbL_up h0, if_neg (by omega), h]
      exact (kbL_eq fs f.toNat (fun j hj => (only132.put f.toNat N 0).cell (Or.inr (by omega)))).symm
    · next hz =>
      refine ih _ _ _ (by omega) ?_
      have h1 : z_iand (z_ishr fs f) 1 = 1 := by
        have := and_one (z_ishr fs f)
        split at this <;> omega
      rw [kbL_up h0, if_pos h1, h]
      congr 1
      refine (kbL_eq fs f.toNat (fun j hj => ?_)).symm
      rw [(dbL_only f.toNat B.toNat 0 _ _ (only132.rf _ _)).cell (Or.inr (by omega)), ((FR.rf (si N 132 f.toNat 0)).run f n).cell (by decide) (by omega)]
      exact (only132.put f.toNat N 0).cell (Or.inr (by omega))
theorem fbL_same {N M : AM} (h : SameP N M) (fs F any : Int) : ∀ (c : Nat) (s q : Int), fbL M fs F any c s q = fbL N fs F any c s q := by
  intro c
  induction c with
  | zero => intro s q; rfl
  | succ c ih =>
    intro s q
    simp only [fbL, kbL_same h, ih]

theorem only132.trans {f : Nat} {m M N : AM} (h : only132 f m M) (h2 : only132 f M N) : only132 f m N := ⟨h2.1.trans h.1, h2.2.1.trans h.2.1, fun o j q => (h2.2.2 o j q).trans (h.2.2 o j q)⟩
set_option maxRecDepth 20000 in
set_option maxHeartbeats 4000000 in
theorem lp_fewest_75 {G : QW} {M E : AM} {fs n what a f : Int} {Rp : Option Vl → AM → Prop} (hR : RI M) (hf0 : 0 ≤ f) (hf7 : f ≤ 7) (hexit : qJ G mX12_fewest { frames := 9, cells := 0, slots := 0, locals := 60 * 9 } (qF G Rp 0 0) 114 [(0, vR 86), (1, vI fs), (2, vI n), (3, vI what), (4, vI a), (5, vI f)] [] E 0 0) : ∀ (c : Nat) (b : Int) (K : AM), only132 f.toNat M K → b + c = mi M 86 1 → 0 ≤ b → dbL f.toNat c b K = E → qJ G mX12_fewest { frames := 9, cells := 0, slots := 0, locals := 60 * 9 } (qF G Rp 0 0) 75 [(0, vR 86), (1, vI fs), (2, vI n), (3, vI what), (4, vI a), (5, vI f), (6, vI b)] [] K 0 0 := by
  have hbx := hR.i.s 86 1 0 6 (by decide)
  intro c
  induction c with
  | zero =>
    intro b K ho hc hb0 hE
    have e1 : mi K 86 1 = mi M 86 1 := ho.cell (by omega)
    have hE : K = E := hE
    refine j_iload rfl rfl ?_
    refine j_aload_n rfl rfl ?_
    refine j_getI rfl f_X12_191 rfl ((hR.dead ho).s.lt (by decide)) ((hR.dead ho).s.k (by decide) (by decide)) ?_
    have u78_1 := (hR.dead ho).i.s 86 1 (0) 6 (by decide)
    refine j_icmp_ge (tgt := 114) rfl (by decide) (by omega) (by omega) (by omega) (by omega) (fun hb81_1 => ?_) (fun hb81_1 => ?_)
    · skip
      subst hE
      refine j_loc (ls' := [(0, vR 86), (1, vI fs), (2, vI n), (3, vI what), (4, vI a), (5, vI f)]) rfl ?_
      exact hexit
    · skip
      exfalso; omega
  | succ c ih =>
    intro b K ho hc hb0 hE
    have e1 : mi K 86 1 = mi M 86 1 := ho.cell (by omega)
    have hB : only132 f.toNat K (if mi K 111 b.toNat ≠ 0 then si K 132 f.toNat (z_ior (mi K 132 f.toNat) (z_ishl 1 b)) else K) := by
      split
      · exact only132.put _ _ _
      · exact only132.rf _ _
    have hE : dbL f.toNat c (b + 1) (if mi K 111 b.toNat ≠ 0 then si K 132 f.toNat (z_ior (mi K 132 f.toNat) (z_ishl 1 b)) else K) = E := hE
    refine j_iload rfl rfl ?_
    refine j_aload_n rfl rfl ?_
    refine j_getI rfl f_X12_191 rfl ((hR.dead ho).s.lt (by decide)) ((hR.dead ho).s.k (by decide) (by decide)) ?_
    have u78_1 := (hR.dead ho).i.s 86 1 (0) 6 (by decide)
    refine j_icmp_ge (tgt := 114) rfl (by decide) (by omega) (by omega) (by omega) (by omega) (fun hb81_1 => ?_) (fun hb81_1 => ?_)
    · skip
      exfalso; omega
    · skip
      refine j_aload_n rfl rfl ?_
      refine j_getR (q := 111) rfl f_X12_84 rfl ((hR.dead ho).s.lt (by decide)) ((hR.dead ho).s.k (by decide) (by decide)) ((hR.dead ho).s.r (by decide)) ?_
      refine j_iload rfl rfl ?_
      refine j_zald (n := 6) rfl ((hR.dead ho).s.lt (by decide)) ((hR.dead ho).s.k (by decide) (by decide)) ((hR.dead ho).s.n (by decide) (by decide)) (by omega) (by omega) (by decide) ?_
      have u90_1 := mi_rng K 111 b.toNat
      refine j_if_eq (tgt := 108) rfl (by decide) (by omega) (by omega) (fun hb91_1 => ?_) (fun hb91_1 => ?_)
      · skip
        refine j_iinc rfl rfl (by decide) ?_
        refine j_goto (tgt := 75) rfl (by decide) ?_
        refine j_loc (ls' := [(0, vR 86), (1, vI fs), (2, vI n), (3, vI what), (4, vI a), (5, vI f), (6, vI (b + 1))]) rfl ?_
        have e : K = (if mi K 111 b.toNat ≠ 0 then si K 132 f.toNat (z_ior (mi K 132 f.toNat) (z_ishl 1 b)) else K) := by rw [if_neg (by omega)]
        refine qJ_mem (m' := (if mi K 111 b.toNat ≠ 0 then si K 132 f.toNat (z_ior (mi K 132 f.toNat) (z_ishl 1 b)) else K)) e.symm ?_
        exact ih (b + 1) (if mi K 111 b.toNat ≠ 0 then si K 132 f.toNat (z_ior (mi K 132 f.toNat) (z_ishl 1 b)) else K) (ho.trans hB) (by omega) (by omega) hE
      · skip
        refine j_aload_n rfl rfl ?_
        refine j_getR (q := 132) rfl f_X12_148 rfl ((hR.dead ho).s.lt (by decide)) ((hR.dead ho).s.k (by decide) (by decide)) ((hR.dead ho).s.r (by decide)) ?_
        refine j_iload rfl rfl ?_
        refine j_dup2 rfl (Nat.ne_of_beq_eq_false rfl) (Nat.ne_of_beq_eq_false rfl) ?_
        refine j_iald (n := 8) rfl ((hR.dead ho).s.lt (by decide)) ((hR.dead ho).s.k (by decide) (by decide)) ((hR.dead ho).s.n (by decide) (by decide)) (by omega) (by omega) (by decide) ?_
        have u101_1 := mi_rng K 132 f.toNat
        refine j_iconst rfl ?_
        refine j_iload rfl rfl ?_
        refine j_ishl rfl ?_
        have z105_1 := z_ishl_rng 1 b
        refine j_ior rfl ?_
        have z106_1 := z_ior_rng (mi K 132 f.toNat) (z_ishl 1 b)
        refine j_iast (n := 8) rfl ((hR.dead ho).s.lt (by decide)) ((hR.dead ho).s.k (by decide) (by decide)) ((hR.dead ho).s.n (by decide) (by decide)) (by omega) (by omega) (by first | decide | omega) ?_
        refine j_iinc rfl rfl (by decide) ?_
        refine j_goto (tgt := 75) rfl (by decide) ?_
        refine j_loc (ls' := [(0, vR 86), (1, vI fs), (2, vI n), (3, vI what), (4, vI a), (5, vI f), (6, vI (b + 1))]) rfl ?_
        have e : (si K 132 f.toNat (z_ior (mi K 132 f.toNat) (z_ishl 1 b))) = (if mi K 111 b.toNat ≠ 0 then si K 132 f.toNat (z_ior (mi K 132 f.toNat) (z_ishl 1 b)) else K) := by first | (rw [if_pos (by omega)]; done) | (rw [if_neg (by omega)]; done)
        rw [e]
        exact ih (b + 1) (if mi K 111 b.toNat ≠ 0 then si K 132 f.toNat (z_ior (mi K 132 f.toNat) (z_ishl 1 b)) else K) (ho.trans hB) (by omega) (by omega) hE

set_option maxRecDepth 20000 in
set_option maxHeartbeats 4000000 in
theorem lp_fewest_36 {G : QW} {m : AM} {E : Int × AM} {fs n what : Int} {Rp : Option Vl → AM → Prop} (hn0 : 1 ≤ n) (hn : n ≤ 200) (hfs0 : 0 ≤ fs) (hfs1 : fs < 2147483648) (hfl : mi m 86 21 ≤ 8) (hbx : 0 ≤ mi m 86 1 ∧ mi m 86 1 ≤ 6) (hexit : ∀ M, RI E.2 → SameP E.2 M → (∀ o j : Nat, o ≠ 132 → ¬ (106 ≤ o ∧ o ≤ 114) → ¬ (o = 86 ∧ 35 ≤ j ∧ j ≤ 40) → mi E.2 o j = mi m o j) → qJ G mX12_fewest { frames := 9, cells := 0, slots := 0, locals := 60 * 9 } (qF G Rp 0 0) 132 [(0, vR 86), (1, vI fs), (2, vI n), (3, vI what), (4, vI E.1)] [] M 0 0) : ∀ (c : Nat) (f a : Int) (N M : AM), f + c = mi m 86 21 → 0 ≤ f → (∀ o j : Nat, o ≠ 132 → ¬ (106 ≤ o ∧ o ≤ 114) → ¬ (o = 86 ∧ 35 ≤ j ∧ j ≤ 40) → mi N o j = mi m o j) → RI N → SameP N M → fwL fs n (mi m 86 1) c f a N = E → qJ G mX12_fewest { frames := 9, cells := 0, slots := 0, locals := 60 * 9 } (qF G Rp 0 0) 36 [(0, vR 86), (1, vI fs), (2, vI n), (3, vI what), (4, vI a), (5, vI f)] [] M 0 0 := by
  intro c
  induction c with
  | zero =>
    intro f a N M hc hf0 hfr hRN hs hE
    have hRM := hRN.of hs
    have e21 : mi M 86 21 = mi m 86 21 := (hs.mi 86 21).trans (hfr 86 21 (by decide) (by decide) (by omega))
    have hE : (a, N) = E := hE
    refine j_iload rfl rfl ?_
    refine j_aload_n rfl rfl ?_
    refine j_getI rfl f_X12_267 rfl (hRM.s.lt (by decide)) (hRM.s.k (by decide) (by decide)) ?_
    have u39_1 := hRM.i.s 86 21 (0) 8 (by decide)
    refine j_icmp_ge (tgt := 132) rfl (by decide) (by omega) (by omega) (by omega) (by omega) (fun hb42_1 => ?_) (fun hb42_1 => ?_)
    · skip
      subst hE
      refine j_loc (ls' := [(0, vR 86), (1, vI fs), (2, vI n), (3, vI what), (4, vI a)]) rfl ?_
      exact hexit M hRN hs hfr
    · skip
      exfalso; omega
  | succ c ih =>
    intro f a N M hc hf0 hfr hRN hs hE
    have hRM := hRN.of hs
    have e21 : mi M 86 21 = mi m 86 21 := (hs.mi 86 21).trans (hfr 86 21 (by decide) (by decide) (by omega))
    simp only [fwL] at hE
    refine j_iload rfl rfl ?_
    refine j_aload_n rfl rfl ?_
    refine j_getI rfl f_X12_267 rfl (hRM.s.lt (by decide)) (hRM.s.k (by decide) (by decide)) ?_
    have u39_1 := hRM.i.s 86 21 (0) 8 (by decide)
    refine j_icmp_ge (tgt := 132) rfl (by decide) (by omega) (by omega) (by omega) (by omega) (fun hb42_1 => ?_) (fun hb42_1 => ?_)
    · skip
      exfalso; omega
    · skip
      refine j_aload_n rfl rfl ?_
      refine j_getR (q := 132) rfl f_X12_148 rfl (hRM.s.lt (by decide)) (hRM.s.k (by decide) (by decide)) (hRM.s.r (by decide)) ?_
      refine j_iload rfl rfl ?_
      refine j_iconst rfl ?_
      refine j_iast (n := 8) rfl (hRM.s.lt (by decide)) (hRM.s.k (by decide) (by decide)) (hRM.s.n (by decide) (by decide)) (by omega) (by omega) (by first | decide | omega) ?_
      refine j_iload_n rfl rfl ?_
      refine j_iload rfl rfl ?_
      refine j_ishr rfl ?_
      have z56_1 := z_ishr_rng fs f
      refine j_iconst rfl ?_
      refine j_iand rfl ?_
      have z58_1 := z_iand_rng (z_ishr fs f) 1
      refine j_if_ne (tgt := 65) rfl (by decide) (by omega) (by omega) (fun hb59_1 => ?_) (fun hb59_1 => ?_)
      · skip
        have hRN1 : RI (si N 132 f.toNat 0) := hRN.dead (only132.put _ _ _)
        have hs1 : SameP (si N 132 f.toNat 0) (si M 132 f.toNat 0) := hs.si _ _ _
        have hRM1 := hRN1.of hs1
        refine j_aload_n rfl rfl ?_
        refine j_iload rfl rfl ?_
        refine j_iload_n rfl rfl ?_
        refine j_callV (ci := 12) rfl okX12_runOf c_X12_389 (ct_X12_runOfI hRM1 (by omega) (by omega) (by omega) (by omega)) rfl rfl (hRM.s.lt (by decide)) (hRM.s.k (by decide) (by decide)) (by decide) rfl (Nat.le_of_ble_eq_true rfl) (by decide) (by decide) ?_
        rintro vq M2 ⟨e1, hs2⟩
        rw [e1]
        clear e1
        simp only [Option.toList_some, Option.toList_none, List.cons_append, List.nil_append]
        have g : SameP (roM (si N 132 f.toNat 0) f n) M2 := (roM_same hs1 f n).trans hs2
        have hRN2 : RI (roM (si N 132 f.toNat 0) f n) := hRN1.run (by omega) (by omega)
        have hR2 := hRN2.of g
        have e86 : mi M2 86 1 = mi m 86 1 := (g.mi 86 1).trans ((((FR.rf (si N 132 f.toNat 0)).run f n).cell (by decide) (by omega)).trans ((mi_si_ne _ _ (by omega)).trans (hfr 86 1 (by decide) (by decide) (by omega))))
        refine j_iconst rfl ?_
        refine j_istore rfl (by decide) ?_
        refine j_loc (ls' := [(0, vR 86), (1, vI fs), (2, vI n), (3, vI what), (4, vI a), (5, vI f), (6, vI 0)]) rfl ?_
        refine lp_fewest_75 (E := dbL f.toNat (mi m 86 1).toNat 0 M2) hR2 hf0 (by omega) ?_ (mi m 86 1).toNat 0 M2 (only132.rf _ _) (by omega) (Int.le_refl 0) rfl
        have gD : SameP (dbL f.toNat (mi m 86 1).toNat 0 (roM (si N 132 f.toNat 0) f n)) (dbL f.toNat (mi m 86 1).toNat 0 M2) := dbL_same _ _ _ _ _ g
        have hRD : RI (dbL f.toNat (mi m 86 1).toNat 0 (roM (si N 132 f.toNat 0) f n)) := hRN2.dead (dbL_only _ _ _ _ _ (only132.rf _ _))
        have hRE := hRD.of gD
        generalize hEE : dbL f.toNat (mi m 86 1).toNat 0 M2 = ME at gD hRE ⊢
        refine j_iload rfl rfl ?_
        refine j_aload_n rfl rfl ?_
        refine j_getR (q := 132) rfl f_X12_148 rfl (hRE.s.lt (by decide)) (hRE.s.k (by decide) (by decide)) (hRE.s.r (by decide)) ?_
        refine j_iload rfl rfl ?_
        refine j_iald (n := 8) rfl (hRE.s.lt (by decide)) (hRE.s.k (by decide) (by decide)) (hRE.s.n (by decide) (by decide)) (by omega) (by omega) (by decide) ?_
        have u122_1 := mi_rng ME 132 f.toNat
        refine j_ior rfl ?_
        have z123_1 := z_ior_rng a (mi ME 132 f.toNat)
        refine j_istore rfl (by decide) ?_
        refine j_iinc rfl rfl (by decide) ?_
        refine j_goto (tgt := 36) rfl (by decide) ?_
        rw [if_neg (by omega)] at hE
        rw [gD.mi 132]
        refine j_loc (ls' := [(0, vR 86), (1, vI fs), (2, vI n), (3, vI what), (4, vI (z_ior a (mi (dbL f.toNat (mi m 86 1).toNat 0 (roM (si N 132 f.toNat 0) f n)) 132 f.toNat))), (5, vI (f + 1))]) rfl ?_
        refine ih (f + 1) _ (dbL f.toNat (mi m 86 1).toNat 0 (roM (si N 132 f.toNat 0) f n)) ME (by omega) (by omega) (fun o j a1 a2 a3 => ?_) hRD gD hE
        exact ((dbL_only f.toNat (mi m 86 1).toNat 0 _ _ (only132.rf _ _)).cell (Or.inl a1)).trans ((((FR.rf (si N 132 f.toNat 0)).run f n).cell a2 a3).trans ((mi_si_ne _ _ (fun q => a1 q.1)).trans (hfr o j a1 a2 a3)))
      · skip
        refine j_goto (tgt := 126) rfl (by decide) ?_
        refine j_iinc rfl rfl (by decide) ?_
        refine j_goto (tgt := 36) rfl (by decide) ?_
        rw [if_pos (by omega)] at hE
        refine j_loc (ls' := [(0, vR 86), (1, vI fs), (2, vI n), (3, vI what), (4, vI a), (5, vI (f + 1))]) rfl ?_
        exact ih (f + 1) a (si N 132 f.toNat 0) _ (by omega) (by omega) (fun o j a1 a2 a3 => (mi_si_ne _ _ (fun q => a1 q.1)).trans (hfr o j a1 a2 a3)) (hRN.dead (only132.put _ _ _)) (hs.si _ _ _) hE

set_option maxRecDepth 20000 in
set_option maxHeartbeats 4000000 in
theorem lp_fewest_185 {G : QW} {m : AM} {fs n what a q s : Int} {Rp : Option Vl → AM → Prop} (hS : St m) (hI : IM m) (hs0 : 0 ≤ s) (hs1 : s < 256) (hexit : qJ G mX12_fewest { frames := 9, cells := 0, slots := 0, locals := 60 * 9 } (qF G Rp 0 0) 223 [(0, vR 86), (1, vI fs), (2, vI n), (3, vI what), (4, vI a), (5, vI q), (6, vI s), (7, vI (kbL m s (mi m 86 21).toNat))] [] m 0 0) : ∀ (c : Nat) (k : Int), k + c = mi m 86 21 → 0 ≤ k → qJ G mX12_fewest { frames := 9, cells := 0, slots := 0, locals := 60 * 9 } (qF G Rp 0 0) 185 [(0, vR 86), (1, vI fs), (2, vI n), (3, vI what), (4, vI a), (5, vI q), (6, vI s), (7, vI (kbL m s k.toNat)), (8, vI k)] [] m 0 0 := by
  have hfl := hI.s 86 21 0 8 (by decide)
  intro c
  induction c with
  | zero =>
    intro k hc hk0
    have hkr := kbL_rng m s k.toNat
    refine j_iload rfl rfl ?_
    refine j_aload_n rfl rfl ?_
    refine j_getI rfl f_X12_267 rfl (hS.lt (by decide)) (hS.k (by decide) (by decide)) ?_
    have u188_1 := hI.s 86 21 (0) 8 (by decide)
    refine j_icmp_ge (tgt := 223) rfl (by decide) (by omega) (by omega) (by omega) (by omega) (fun hb191_1 => ?_) (fun hb191_1 => ?_)
    · skip
      rw [show k = mi m 86 21 by omega]
      refine j_loc (ls' := [(0, vR 86), (1, vI fs), (2, vI n), (3, vI what), (4, vI a), (5, vI q), (6, vI s), (7, vI (kbL m s (mi m 86 21).toNat))]) rfl ?_
      exact hexit
    · skip
      exfalso; omega
  | succ c ih =>
    intro k hc hk0
    have hkr := kbL_rng m s k.toNat
    refine j_iload rfl rfl ?_
    refine j_aload_n rfl rfl ?_
    refine j_getI rfl f_X12_267 rfl (hS.lt (by decide)) (hS.k (by decide) (by decide)) ?_
    have u188_1 := hI.s 86 21 (0) 8 (by decide)
    refine j_icmp_ge (tgt := 223) rfl (by decide) (by omega) (by omega) (by omega) (by omega) (fun hb191_1 => ?_) (fun hb191_1 => ?_)
    · skip
      exfalso; omega
    · skip
      refine j_iload rfl rfl ?_
      refine j_iload rfl rfl ?_
      refine j_ishr rfl ?_
      have z198_1 := z_ishr_rng s k
      refine j_iconst rfl ?_
      refine j_iand rfl ?_
      have z200_1 := z_iand_rng (z_ishr s k) 1
      refine j_iconst rfl ?_
      refine j_icmp_ne (tgt := 217) rfl (by decide) (by omega) (by omega) (by omega) (by omega) (fun hb202_1 => ?_) (fun hb202_1 => ?_)
      · skip
        refine j_iinc rfl rfl (by decide) ?_
        refine j_goto (tgt := 185) rfl (by decide) ?_
        have hu : (kbL m s k.toNat) = (kbL m s (k + 1).toNat) := by rw [kbL_up hk0]; first | (rw [if_pos (by omega)]; done) | (rw [if_neg (by omega)]; done)
        refine j_loc (ls' := [(0, vR 86), (1, vI fs), (2, vI n), (3, vI what), (4, vI a), (5, vI q), (6, vI s), (7, vI (kbL m s (k + 1).toNat)), (8, vI (k + 1))]) (by rw [← hu]; rfl) ?_
        exact ih (k + 1) (by omega) (by omega)
      · skip
        refine j_iload rfl rfl ?_
        refine j_aload_n rfl rfl ?_
        refine j_getR (q := 132) rfl f_X12_148 rfl (hS.lt (by decide)) (hS.k (by decide) (by decide)) (hS.r (by decide)) ?_
        refine j_iload rfl rfl ?_
        refine j_iald (n := 8) rfl (hS.lt (by decide)) (hS.k (by decide) (by decide)) (hS.n (by decide) (by decide)) (by omega) (by omega) (by decide) ?_
        have u213_1 := mi_rng m 132 k.toNat
        refine j_ior rfl ?_
        have z214_1 := z_ior_rng (kbL m s k.toNat) (mi m 132 k.toNat)
        refine j_istore rfl (by decide) ?_
        refine j_iinc rfl rfl (by decide) ?_
        refine j_goto (tgt := 185) rfl (by decide) ?_
        have hu : z_ior (kbL m s k.toNat) (mi m 132 k.toNat) = (kbL m s (k + 1).toNat) := by rw [kbL_up hk0]; first | (rw [if_pos (by omega)]; done) | (rw [if_neg (by omega)]; done)
        refine j_loc (ls' := [(0, vR 86), (1, vI fs), (2, vI n), (3, vI what), (4, vI a), (5, vI q), (6, vI s), (7, vI (kbL m s (k + 1).toNat)), (8, vI (k + 1))]) (by rw [← hu]; rfl) ?_
        exact ih (k + 1) (by omega) (by omega)

set_option maxRecDepth 20000 in
set_option maxHeartbeats 4000000 in
theorem lp_fewest_138 {G : QW} {m : AM} {fs n what a E : Int} {Rp : Option Vl → AM → Prop} (hS : St m) (hI : IM m) (hfs0 : 0 ≤ fs) (hfs1 : fs < z_ishl 1 (mi m 86 21)) (ha : -2147483648 ≤ a ∧ a < 2147483648) (hka : kbL m fs (mi m 86 21).toNat = a) (hexit : 0 ≤ E → E < 256 → qJ G mX12_fewest { frames := 9, cells := 0, slots := 0, locals := 60 * 9 } (qF G Rp 0 0) 240 [(0, vR 86), (1, vI fs), (2, vI n), (3, vI what), (4, vI a), (5, vI E)] [] m 0 0) : ∀ (c : Nat) (s q : Int), s + c = z_ishl 1 (mi m 86 21) → 0 ≤ s → -1 ≤ q → q < 256 → (q < 0 → s ≤ fs) → fbL m fs (mi m 86 21) a c s q = E → qJ G mX12_fewest { frames := 9, cells := 0, slots := 0, locals := 60 * 9 } (qF G Rp 0 0) 138 [(0, vR 86), (1, vI fs), (2, vI n), (3, vI what), (4, vI a), (5, vI q), (6, vI s)] [] m 0 0 := by
  have hfl := hI.s 86 21 0 8 (by decide)
  have hsh := shl_rng hfl.1 hfl.2
  intro c
  induction c with
  | zero =>
    intro s q hc hs0 hq0 hq1 hqs hE
    have hE : q = E := hE
    refine j_iload rfl rfl ?_
    refine j_iconst rfl ?_
    refine j_aload_n rfl rfl ?_
    refine j_getI rfl f_X12_267 rfl (hS.lt (by decide)) (hS.k (by decide) (by decide)) ?_
    have u142_1 := hI.s 86 21 (0) 8 (by decide)
    refine j_ishl rfl ?_
    have z145_1 := z_ishl_rng 1 (mi m 86 21)
    refine j_icmp_ge (tgt := 240) rfl (by decide) (by omega) (by omega) (by omega) (by omega) (fun hb146_1 => ?_) (fun hb146_1 => ?_)
    · skip
      subst hE
      refine j_loc (ls' := [(0, vR 86), (1, vI fs), (2, vI n), (3, vI what), (4, vI a), (5, vI q)]) rfl ?_
      exact hexit (by omega) (by omega)
    · skip
      exfalso; omega
  | succ c ih =>
    intro s q hc hs0 hq0 hq1 hqs hE
    have hbs := bcX_rng s
    have hbq := bcX_rng q
    have hself : s = fs → z_iand s (z_ixor fs (-1)) = 0 ∧ kbL m s (mi m 86 21).toNat = a := fun e => by rw [e]; exact ⟨zand_not_self fs, hka⟩
    simp only [fbL] at hE
    refine j_iload rfl rfl ?_
    refine j_iconst rfl ?_
    refine j_aload_n rfl rfl ?_
    refine j_getI rfl f_X12_267 rfl (hS.lt (by decide)) (hS.k (by decide) (by decide)) ?_
    have u142_1 := hI.s 86 21 (0) 8 (by decide)
    refine j_ishl rfl ?_
    have z145_1 := z_ishl_rng 1 (mi m 86 21)
    refine j_icmp_ge (tgt := 240) rfl (by decide) (by omega) (by omega) (by omega) (by omega) (fun hb146_1 => ?_) (fun hb146_1 => ?_)
    · skip
      exfalso; omega
    · skip
      refine j_iload rfl rfl ?_
      refine j_iload_n rfl rfl ?_
      refine j_iconst rfl ?_
      refine j_ixor rfl ?_
      have z153_1 := z_ixor_rng fs (-1)
      refine j_iand rfl ?_
      have z154_1 := z_iand_rng s (z_ixor fs (-1))
      refine j_if_ne (tgt := 234) rfl (by decide) (by omega) (by omega) (fun hb155_1 => ?_) (fun hb155_1 => ?_)
      · skip
        refine j_iinc rfl rfl (by decide) ?_
        refine j_goto (tgt := 138) rfl (by decide) ?_
        refine j_loc (ls' := [(0, vR 86), (1, vI fs), (2, vI n), (3, vI what), (4, vI a), (5, vI q), (6, vI (s + 1))]) rfl ?_
        first | rw [if_pos (by omega)] at hE | rw [if_neg (by omega), if_pos (by omega)] at hE | rw [if_neg (by omega), if_neg (by omega)] at hE
        exact ih (s + 1) q (by omega) (by omega) (by omega) (by omega) (by have := hself; omega) hE
      · skip
        refine j_iload rfl rfl ?_
        refine j_if_lt (tgt := 179) rfl (by decide) (by omega) (by omega) (fun hb160_1 => ?_) (fun hb160_1 => ?_)
        · skip
          refine j_iconst rfl ?_
          refine j_istore rfl (by decide) ?_
          refine j_iconst rfl ?_
          refine j_istore rfl (by decide) ?_
          refine j_loc (ls' := [(0, vR 86), (1, vI fs), (2, vI n), (3, vI what), (4, vI a), (5, vI q), (6, vI s), (7, vI 0), (8, vI 0)]) rfl ?_
          refine lp_fewest_185 hS hI hs0 (by omega) ?_ (mi m 86 21).toNat 0 (by omega) (Int.le_refl 0)
          have hkr := kbL_rng m s (mi m 86 21).toNat
          refine j_iload rfl rfl ?_
          refine j_iload rfl rfl ?_
          refine j_icmp_ne (tgt := 234) rfl (by decide) (by omega) (by omega) (by omega) (by omega) (fun hb227_1 => ?_) (fun hb227_1 => ?_)
          · skip
            refine j_iinc rfl rfl (by decide) ?_
            refine j_goto (tgt := 138) rfl (by decide) ?_
            refine j_loc (ls' := [(0, vR 86), (1, vI fs), (2, vI n), (3, vI what), (4, vI a), (5, vI q), (6, vI (s + 1))]) rfl ?_
            first | rw [if_pos (by omega)] at hE | rw [if_neg (by omega), if_pos (by omega)] at hE | rw [if_neg (by omega), if_neg (by omega)] at hE
            exact ih (s + 1) q (by omega) (by omega) (by omega) (by omega) (by have := hself; omega) hE
          · skip
            refine j_iload rfl rfl ?_
            refine j_istore rfl (by decide) ?_
            refine j_iinc rfl rfl (by decide) ?_
            refine j_goto (tgt := 138) rfl (by decide) ?_
            refine j_loc (ls' := [(0, vR 86), (1, vI fs), (2, vI n), (3, vI what), (4, vI a), (5, vI s), (6, vI (s + 1))]) rfl ?_
            first | rw [if_pos (by omega)] at hE | rw [if_neg (by omega), if_pos (by omega)] at hE | rw [if_neg (by omega), if_neg (by omega)] at hE
            exact ih (s + 1) s (by omega) (by omega) (by omega) (by omega) (by have := hself; omega) hE
        · skip
          refine j_iload rfl rfl ?_
          refine j_callS (As := [_]) rfl okX12_bitsOf c_X12_452 (ct_X12_bitsOf (by omega) (by omega)) rfl rfl (Nat.le_of_ble_eq_true rfl) (by decide) (by decide) ?_
          rintro vq mq ⟨e1, e2⟩
          rw [e1, e2]
          clear e1 e2
          simp only [Option.toList_some, Option.toList_none, List.cons_append, List.nil_append]
          have bq55 := bcX_rng s
          refine j_iload rfl rfl ?_
          refine j_callS (As := [_]) rfl okX12_bitsOf c_X12_452 (ct_X12_bitsOf (by omega) (by omega)) rfl rfl (Nat.le_of_ble_eq_true rfl) (by decide) (by decide) ?_
          rintro vq mq ⟨e1, e2⟩
          rw [e1, e2]
          clear e1 e2
          simp only [Option.toList_some, Option.toList_none, List.cons_append, List.nil_append]
          have bq62 := bcX_rng q
          refine j_icmp_lt (tgt := 179) rfl (by decide) (by omega) (by omega) (by omega) (by omega) (fun hb173_1 => ?_) (fun hb173_1 => ?_)
          · skip
            refine j_iconst rfl ?_
            refine j_istore rfl (by decide) ?_
            refine j_iconst rfl ?_
            refine j_istore rfl (by decide) ?_
            refine j_loc (ls' := [(0, vR 86), (1, vI fs), (2, vI n), (3, vI what), (4, vI a), (5, vI q), (6, vI s), (7, vI 0), (8, vI 0)]) rfl ?_
            refine lp_fewest_185 hS hI hs0 (by omega) ?_ (mi m 86 21).toNat 0 (by omega) (Int.le_refl 0)
            have hkr := kbL_rng m s (mi m 86 21).toNat
            refine j_iload rfl rfl ?_
            refine j_iload rfl rfl ?_
            refine j_icmp_ne (tgt := 234) rfl (by decide) (by omega) (by omega) (by omega) (by omega) (fun hb227_2 => ?_) (fun hb227_2 => ?_)
            · skip
              refine j_iinc rfl rfl (by decide) ?_
              refine j_goto (tgt := 138) rfl (by decide) ?_
              refine j_loc (ls' := [(0, vR 86), (1, vI fs), (2, vI n), (3, vI what), (4, vI a), (5, vI q), (6, vI (s + 1))]) rfl ?_
              first | rw [if_pos (by omega)] at hE | rw [if_neg (by omega), if_pos (by omega)] at hE | rw [if_neg (by omega), if_neg (by omega)] at hE
              exact ih (s + 1) q (by omega) (by omega) (by omega) (by omega) (by have := hself; omega) hE
            · skip
              refine j_iload rfl rfl ?_
              refine j_istore rfl (by decide) ?_
              refine j_iinc rfl rfl (by decide) ?_
              refine j_goto (tgt := 138) rfl (by decide) ?_
              refine j_loc (ls' := [(0, vR 86), (1, vI fs), (2, vI n), (3, vI what), (4, vI a), (5, vI s), (6, vI (s + 1))]) rfl ?_
              first | rw [if_pos (by omega)] at hE | rw [if_neg (by omega), if_pos (by omega)] at hE | rw [if_neg (by omega), if_neg (by omega)] at hE
              exact ih (s + 1) s (by omega) (by omega) (by omega) (by omega) (by have := hself; omega) hE
          · skip
            refine j_goto (tgt := 234) rfl (by decide) ?_
            refine j_iinc rfl rfl (by decide) ?_
            refine j_goto (tgt := 138) rfl (by decide) ?_
            refine j_loc (ls' := [(0, vR 86), (1, vI fs), (2, vI n), (3, vI what), (4, vI a), (5, vI q), (6, vI (s + 1))]) rfl ?_
            first | rw [if_pos (by omega)] at hE | rw [if_neg (by omega), if_pos (by omega)] at hE | rw [if_neg (by omega), if_neg (by omega)] at hE
            exact ih (s + 1) q (by omega) (by omega) (by omega) (by omega) (by have := hself; omega) hE

theorem fwL_r {fs n B : Int} : ∀ (c : Nat) (f a : Int) (N : AM), (-2147483648 ≤ a ∧ a < 2147483648) → -2147483648 ≤ (fwL fs n B c f a N).1 ∧ (fwL fs n B c f a N).1 < 2147483648 := by
  intro c
  induction c with
  | zero => intro f a N h; exact h
  | succ c ih =>
    intro f a N h
    simp only [fwL]
    split
    · exact ih _ _ _ h
    · exact ih _ _ _ (z_ior_rng _ _)
set_option maxRecDepth 20000 in
set_option maxHeartbeats 4000000 in
theorem lp_fewest_132 {G : QW} {m M : AM} {fs n what : Int} (hcond : ((0 ≤ fs ∧ z_ishr fs (mi m 86 21) = 0) ∧ (1 ≤ n ∧ n ≤ 200) ∧ (0 ≤ what ∧ what ≤ 1))) (hfs2 : fs < 2147483648) (hfl : 0 ≤ mi m 86 21 ∧ mi m 86 21 ≤ 8) (hRE : RI (fewE m fs n).2) (hs : SameP (fewE m fs n).2 M) (hfr : (∀ o j : Nat, o ≠ 132 → ¬ (106 ≤ o ∧ o ≤ 114) → ¬ (o = 86 ∧ 35 ≤ j ∧ j ≤ 40) → mi (fewE m fs n).2 o j = mi (aiM m) o j)) : qJ G mX12_fewest { frames := 9, cells := 0, slots := 0, locals := 60 * 9 } (qF G (fun r m' => r = some (vI (fewR m fs n what).1) ∧ SameP (fewR m fs n what).2 m') 0 0) 132 [(0, vR 86), (1, vI fs), (2, vI n), (3, vI what), (4, vI (fewE m fs n).1)] [] M 0 0 := by
  have hRM := hRE.of hs
  have e21 : mi M 86 21 = mi m 86 21 := (hs.mi 86 21).trans ((hfr 86 21 (by decide) (by decide) (by omega)).trans (aiM_mi m (by omega)))
  have hfs0 : 0 ≤ fs := hcond.1.1
  have hsh := shl_rng hfl.1 hfl.2
  have hlt : fs < z_ishl 1 (mi m 86 21) := by
    have k1 := shr_zero hfs0 hfs2 (k := (mi m 86 21).toNat) (by omega) (by rw [show (((mi m 86 21).toNat : Nat) : Int) = mi m 86 21 by omega]; exact hcond.1.2)
    rw [← shl_pow (by omega), show (((mi m 86 21).toNat : Nat) : Int) = mi m 86 21 by omega] at k1
    exact k1
  have hER := fwL_r (fs := fs) (n := n) (B := mi m 86 1) (mi m 86 21).toNat 0 0 (aiM m) (by decide)
  have hkb : (fewE m fs n).1 = kbL (fewE m fs n).2 fs (mi m 86 21).toNat := by
    have := fwL_kb (fs := fs) (n := n) (B := mi m 86 1) (mi m 86 21).toNat 0 0 (aiM m) (Int.le_refl 0) rfl
    rw [show (0 : Int) + (((mi m 86 21).toNat : Nat) : Int) = mi m 86 21 by omega] at this
    exact this
  have hER : -2147483648 ≤ (fewE m fs n).1 ∧ (fewE m fs n).1 < 2147483648 := hER
  refine j_iconst rfl ?_
  refine j_istore rfl (by decide) ?_
  refine j_iconst rfl ?_
  refine j_istore rfl (by decide) ?_
  refine j_loc (ls' := [(0, vR 86), (1, vI fs), (2, vI n), (3, vI what), (4, vI (fewE m fs n).1), (5, vI (-1)), (6, vI 0)]) rfl ?_
  refine lp_fewest_138 (E := fewQ m fs n) hRM.s hRM.i hfs0 (by rw [e21]; exact hlt) hER ?_ (fun h0 h1 => ?_) (z_ishl 1 (mi m 86 21)).toNat 0 (-1) (by rw [e21]; omega) (by omega) (by omega) (by omega) (by omega) ?_
  · rw [e21, kbL_same hs]; exact hkb.symm
  · skip
    refine j_iload_n rfl rfl ?_
    refine j_if_ne (tgt := 252) rfl (by decide) (by omega) (by omega) (fun hb241_1 => ?_) (fun hb241_1 => ?_)
    · skip
      refine j_iload rfl rfl ?_
      refine j_iret rfl rfl ?_ rfl (Nat.le_refl _)
      exact ⟨by unfold fewR; rw [if_pos hcond]; first | (rw [if_pos (by omega)]; done) | (rw [if_neg (by omega)]; done), by unfold fewR; rw [if_pos hcond]; exact hs⟩
    · skip
      refine j_iload rfl rfl ?_
      refine j_callS (As := [_]) rfl okX12_bitsOf c_X12_452 (ct_X12_bitsOf (by omega) (by omega)) rfl rfl (Nat.le_of_ble_eq_true rfl) (by decide) (by decide) ?_
      rintro vq mq ⟨e1, e2⟩
      rw [e1, e2]
      clear e1 e2
      simp only [Option.toList_some, Option.toList_none, List.cons_append, List.nil_append]
      have bq16 := bcX_rng (fewQ m fs n)
      refine j_goto (tgt := 254) rfl (by decide) ?_
      refine j_iret rfl rfl ?_ rfl (Nat.le_refl _)
      exact ⟨by unfold fewR; rw [if_pos hcond]; first | (rw [if_pos (by omega)]; done) | (rw [if_neg (by omega)]; done), by unfold fewR; rw [if_pos hcond]; exact hs⟩
  · rw [e21]; exact fbL_same hs fs _ _ _ _ _

set_option maxRecDepth 20000 in
set_option maxHeartbeats 4000000 in
theorem ct_X12_fewest {G : QW} {m : AM} {fs n what : Int} (h : RI m) (hfs1 : -2147483648 ≤ fs) (hfs2 : fs < 2147483648) (hn1 : -2147483648 ≤ n) (hn2 : n < 2147483648) (hwhat1 : -2147483648 ≤ what) (hwhat2 : what < 2147483648) : qM G mX12_fewest 9 0 0 [vR 86, vI fs, vI n, vI what] m (fun r m' => r = some (vI (fewR m fs n what).1) ∧ SameP (fewR m fs n what).2 m') := by
  refine qM.intro okX12_fewest (Nat.le_of_ble_eq_true rfl) ?_
  have hS := h.s
  have hI := h.i
  have hfl := hI.s 86 21 0 8 (by decide)
  have hbx := hI.s 86 1 0 6 (by decide)
  refine j_aload_n rfl rfl ?_
  refine j_iload_n rfl rfl ?_
  refine j_callV (ci := 12) rfl okX12_areFlights c_X12_449 (ct_X12_areFlights hS hI (by omega) (by omega)) rfl rfl (hS.lt (by decide)) (hS.k (by decide) (by decide)) (by decide) rfl (Nat.le_of_ble_eq_true rfl) (by decide) (by decide) ?_
  rintro vq mq ⟨e1, e2⟩
  rw [e1, e2]
  clear e1 e2
  simp only [Option.toList_some, Option.toList_none, List.cons_append, List.nil_append]
  have w1 := hI.s 86 21 (0) 8 (by decide)
  refine j_bif_eq (tgt := 24) rfl (by decide) (fun hb5_1 => ?_) (fun hb5_1 => ?_)
  · skip
    refine j_iconst rfl ?_
    refine j_iret rfl rfl ?_ rfl (Nat.le_refl _)
    exact ⟨by unfold fewR; rw [if_neg (by omega)], by unfold fewR; rw [if_neg (by omega)]; exact SameP.rf m⟩
  · skip
    refine j_iload_n rfl rfl ?_
    refine j_callS (As := [_]) rfl okX12_isTicks c_X12_383 (ct_X12_isTicks (by omega) (by omega)) rfl rfl (Nat.le_of_ble_eq_true rfl) (by decide) (by decide) ?_
    rintro vq mq ⟨e1, e2⟩
    rw [e1, e2]
    clear e1 e2
    simp only [Option.toList_some, Option.toList_none, List.cons_append, List.nil_append]
    refine j_bif_eq (tgt := 24) rfl (by decide) (fun hb12_1 => ?_) (fun hb12_1 => ?_)
    · skip
      refine j_iconst rfl ?_
      refine j_iret rfl rfl ?_ rfl (Nat.le_refl _)
      exact ⟨by unfold fewR; rw [if_neg (by omega)], by unfold fewR; rw [if_neg (by omega)]; exact SameP.rf m⟩
    · skip
      refine j_iload_n rfl rfl ?_
      refine j_iconst rfl ?_
      refine j_iconst rfl ?_
      refine j_callS (As := [_, _, _]) rfl okX12_in c_X12_194 (ct_X12_in (by omega) (by omega) (by omega) (by omega) (by omega) (by omega)) rfl rfl (Nat.le_of_ble_eq_true rfl) (by decide) (by decide) ?_
      rintro vq mq ⟨e1, e2⟩
      rw [e1, e2]
      clear e1 e2
      simp only [Option.toList_some, Option.toList_none, List.cons_append, List.nil_append]
      refine j_bif_ne (tgt := 26) rfl (by decide) (fun hb21_1 => ?_) (fun hb21_1 => ?_)
      · skip
        refine j_aload_n rfl rfl ?_
        refine j_callV (ci := 12) rfl okX12_asItIs c_X12_386 (ct_X12_asIs h) rfl rfl (hS.lt (by decide)) (hS.k (by decide) (by decide)) (by decide) rfl (Nat.le_of_ble_eq_true rfl) (by decide) (by decide) ?_
        rintro vq mq ⟨e1, e2⟩
        rw [e1, e2]
        clear e1 e2
        simp only [Option.toList_some, Option.toList_none, List.cons_append, List.nil_append]
        refine j_iconst rfl ?_
        refine j_istore rfl (by decide) ?_
        refine j_iconst rfl ?_
        refine j_istore rfl (by decide) ?_
        refine j_loc (ls' := [(0, vR 86), (1, vI fs), (2, vI n), (3, vI what), (4, vI 0), (5, vI 0)]) rfl ?_
        have e21 := aiM_mi m (o := 86) (j := 21) (by omega)
        have e1 := aiM_mi m (o := 86) (j := 1) (by omega)
        exact lp_fewest_36 (m := aiM m) (E := fewE m fs n) (by omega) (by omega) (by omega) (by omega) (by omega) (by omega) (fun M hRE hs hfr => lp_fewest_132 (by omega) (by omega) hfl hRE hs hfr) (mi m 86 21).toNat 0 0 (aiM m) (aiM m) (by omega) (Int.le_refl 0) (fun o j _ _ _ => rfl) h.asIs (SameP.rf _) (by rw [e1]; rfl)
      · skip
        refine j_iconst rfl ?_
        refine j_iret rfl rfl ?_ rfl (Nat.le_refl _)
        exact ⟨by unfold fewR; rw [if_neg (by omega)], by unfold fewR; rw [if_neg (by omega)]; exact SameP.rf m⟩


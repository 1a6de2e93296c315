theorem LI.rk {m N : AM} {o : Nat} {W : ZW} {b : Int} {C : ZC} {g : Prop} {S : ZS} (hG : GT m o W) (hb : 0 ≤ b ∧ b < W.nb) (h : LI m o (bx m b) (pg m b) C g N S) : RK N o (bx m b) (pg m b) := by
  obtain ⟨t, hi, ⟨r1, r2, r3⟩, rc, ct, r8, -, -⟩ := h
  have hN := hG.of t
  have hnb := hG.2.2.2.1.1
  have hB := hG.2.2.2.2 b hb.1 hb.2
  have hB2 := hN.2.2.2.2 b hb.1 hb.2
  have eb := t.bxe b
  have ep := t.pge (b := b) hB.2.1.1
  obtain ⟨⟨a1, a2, a3, a4⟩, b0, ⟨c1, c2⟩, d, -⟩ := hB2
  rw [eb] at a2 c1 d
  rw [ep] at a4
  exact ⟨hN.1, hi, ⟨hN.2.2.1, r1⟩, ⟨a2, r2⟩, ⟨a4, r3⟩, by omega, d, fun j => ⟨(ct.2.2.1 j).1, by have := (ct.2.2.1 j).2; omega⟩, rc.1, ct.2.1, ct.2.2.2.1, by have := ct.2.2.2.2; omega, r8⟩
theorem JC.ne {N : AM} {o : Nat} {S : ZS} (h : JC N o S) {c : Nat} (hc : ¬ (o ≤ c ∧ c ≤ o + 6)) (k : Nat) (v : Int) : JC (si N c k v) o S := by
  have e : ∀ r j, r ≤ 6 → mi (si N c k v) (o + r) j = mi N (o + r) j := fun r j hr => mi_si_ne N v (fun q => hc (by omega))
  obtain ⟨h1, h2, h3, h4, h5, h6, h7, h8⟩ := h
  have e0 : mi (si N c k v) o 7 = mi N o 7 := e 0 7 (by decide)
  exact ⟨fun j hj => (e 1 j (by decide)).trans (h1 j hj), fun j hj => (e 2 j (by decide)).trans (h2 j hj), fun j hj => (e 3 j (by decide)).trans (h3 j hj), fun j hj => (e 4 j (by decide)).trans (h4 j hj), fun j hj => (e 5 j (by decide)).trans (h5 j hj), fun j hj => (e 6 j (by decide)).trans (h6 j hj), by rw [e0]; exact h7, by rw [e0]; exact h8⟩
theorem JF.ne {N : AM} {o : Nat} {S S' : ZS} (h : JF N o S) (hS : S'.fi = S.fi) {c : Nat} (h1 : c ≠ o) (h2 : c ≠ o + 7) (k : Nat) (v : Int) : JF (si N c k v) o S' := by
  unfold JF
  rw [hS]
  have e0 : mi (si N c k v) o 7 = mi N o 7 := mi_si_ne N v (fun q => h1 q.1.symm)
  have e7 : ∀ j, mi (si N c k v) (o + 7) j = mi N (o + 7) j := fun j => mi_si_ne N v (fun q => h2 q.1.symm)
  rw [e0, e7, e7, e7, e7]
  exact h
theorem RC.put {N : AM} {o : Nat} (h : RC N o) {c : Nat} {v : Int} (h1 : c = o + 1 ∨ c = o + 2 → -1000000 ≤ v ∧ v ≤ 1000000) (h3 : c = o + 3 → 0 ≤ v ∧ v ≤ 10) (h4 : c = o + 4 → -1 ≤ v ∧ v ≤ 200) (k : Nat) : RC (si N c k v) o := by
  have key : ∀ (r : Nat) (lo hi : Int), (∀ j : Nat, lo ≤ mi N (o + r) j ∧ mi N (o + r) j ≤ hi) → (c = o + r → lo ≤ v ∧ v ≤ hi) → -2147483648 ≤ lo → hi < 2147483648 → ∀ j : Nat, lo ≤ mi (si N c k v) (o + r) j ∧ mi (si N c k v) (o + r) j ≤ hi := by
    intro r lo hi h0 hv hl hh j
    rw [mi_si]
    split
    · next q =>
      have := hv q.1.symm
      rw [zi_toInt (by omega) (by omega)]
      exact this
    · exact h0 j
  exact ⟨key 1 _ _ h.1 (fun e => h1 (Or.inl e)) (by decide) (by decide), key 2 _ _ h.2.1 (fun e => h1 (Or.inr e)) (by decide) (by decide), key 3 _ _ h.2.2.1 h3 (by decide) (by decide), key 4 _ _ h.2.2.2 h4 (by decide) (by decide)⟩
theorem CT.ne {N : AM} {C : ZC} (h : CT N C) {c k : Nat} (hc : ¬ (18 ≤ c ∧ c ≤ 20)) (h7 : ¬ (c = 17 ∧ k = 7)) (v : Int) : CT (si N c k v) C := by
  have e : ∀ p j, 18 ≤ p ∧ p ≤ 20 → mi (si N c k v) p j = mi N p j := fun p j hp => mi_si_ne N v (fun q => hc (by omega))
  have e7 : mi (si N c k v) 17 7 = mi N 17 7 := mi_si_ne N v (fun q => h7 ⟨q.1.symm, q.2.symm⟩)
  unfold CT
  rw [e7]
  refine ⟨⟨fun j hj => ?_, fun j hj => ?_, fun j hj => ?_, h.1.2.2.2⟩, fun j => ?_, fun j => ?_, fun j => ?_, h.2.2.2.2⟩
  · rw [e 18 j (by decide)]; exact h.1.1 j hj
  · rw [e 19 j (by decide)]; exact h.1.2.1 j hj
  · rw [e 20 j (by decide)]; exact h.1.2.2.1 j hj
  · rw [e 18 j (by decide)]; exact h.2.1 j
  · rw [e 19 j (by decide)]; exact h.2.2.1 j
  · rw [e 20 j (by decide)]; exact h.2.2.2.1 j
theorem LI.pl {m N K : AM} {o x p : Nat} {C : ZC} {g : Prop} {S : ZS} (h : LI m o x p C g N S) (h2 : PL N K) : LI m o x p C g K S := by
  obtain ⟨t, hi, r, rc, ct, r8, j, f⟩ := h
  have t2 := t.pl h2
  obtain ⟨L, rfl⟩ := h2.ex
  exact ⟨t2, hi, r, rc, ct, r8, j, f⟩
/-- a store to one of the ticker's two numbers -/
theorem LI.own {m N : AM} {o x p : Nat} {C : ZC} {g : Prop} {S : ZS} (ho : sto o) (h : LI m o x p C g N S) {k : Nat} (hk : k = 8 ∨ k = 9) {v : Int} (hv : 0 ≤ v ∧ v ≤ 100) : LI m o x p C g (si N 17 k v) S := by
  obtain ⟨t, hi, r, rc, ct, r8, j, f⟩ := h
  unfold sto at ho
  refine ⟨t.cell (Or.inl (by decide)) _ _, hi.oneA (by decide) (by decide) (by decide) (by decide) (by decide) (by decide), r, rc.put (by omega) (by omega) (by omega) _, ct.ne (by decide) (by omega) _, ?_, j.ne (by omega) _ _, fun hg => (f hg).ne rfl (by omega) (by omega) _ _⟩
  rw [mi_si]
  split
  · rw [zi_toInt (by omega) (by omega)]; exact hv
  · exact r8
/-- a store to the stand, but for its bits of the dead -/
theorem LI.std {m N : AM} {o x p : Nat} {C : ZC} {g : Prop} {S S' : ZS} (ho : sto o) (h : LI m o x p C g N S) {r k : Nat} (hr : 1 ≤ r ∧ r ≤ 6) {v : Int} (h1 : r = 1 ∨ r = 2 → -1000000 ≤ v ∧ v ≤ 1000000) (h3 : r = 3 → 0 ≤ v ∧ v ≤ 10) (h4 : r = 4 → -1 ≤ v ∧ v ≤ 200) (hJ : JC (si N (o + r) k v) o S') (hfi : S'.fi = S.fi) : LI m o x p C g (si N (o + r) k v) S' := by
  obtain ⟨t, hi, rr, rc, ct, r8, j, f⟩ := h
  have ho2 := ho
  unfold sto at ho2
  refine ⟨t.cell (Or.inr (by omega)) _ _, hi.std ho (by omega) h1 h3 h4, rr, rc.put (fun e => h1 (by omega)) (fun e => h3 (by omega)) (fun e => h4 (by omega)) _, ct.ne (by omega) (by omega) _, ?_, hJ, fun hg => (f hg).ne hfi (by omega) (by omega) _ _⟩
  rw [mi_si_ne _ _ (by omega)]
  exact r8
theorem zu_row {N : AM} {c k n : Nat} {v : Int} {f : Nat → Int} (h : ∀ j : Nat, j < n → mi N c j = f j) : ∀ j : Nat, j < n → mi (si N c k v) c j = zu f k (zi v).toInt j := by
  intro j hj
  rw [mi_si]
  unfold zu
  by_cases e : j = k
  · rw [if_pos ⟨rfl, e⟩, if_pos e]
  · rw [if_neg (fun q => e q.2), if_neg e]
    exact h j hj
theorem JC.row1 {N : AM} {o : Nat} {S : ZS} (h : JC N o S) (k : Nat) (v : Int) : JC (si N (o + 1) k v) o (zu S.sl k (zi v).toInt, S.2) := by
  obtain ⟨h1, h2, h3, h4, h5, h6, h7, h8, h9⟩ := h
  have e : ∀ r' j, r' ≠ 1 → mi (si N (o + 1) k v) (o + r') j = mi N (o + r') j := fun r' j hr => mi_si_ne N v (fun q => hr (by omega))
  have e0 : mi (si N (o + 1) k v) o 7 = mi N o 7 := e 0 7 (by decide)
  exact ⟨zu_row h1, fun j hj => (e 2 j (by decide)).trans (h2 j hj), fun j hj => (e 3 j (by decide)).trans (h3 j hj), fun j hj => (e 4 j (by decide)).trans (h4 j hj), fun j hj => (e 5 j (by decide)).trans (h5 j hj), fun j hj => (e 6 j (by decide)).trans (h6 j hj), fun j hj => by rw [e0]; exact h7 j hj, by rw [e0]; exact h8, by rw [e0]; exact h9⟩
theorem JC.row2 {N : AM} {o : Nat} {S : ZS} (h : JC N o S) (k : Nat) (v : Int) : JC (si N (o + 2) k v) o (S.1, zu S.po k (zi v).toInt, S.2.2) := by
  obtain ⟨h1, h2, h3, h4, h5, h6, h7, h8, h9⟩ := h
  have e : ∀ r' j, r' ≠ 2 → mi (si N (o + 2) k v) (o + r') j = mi N (o + r') j := fun r' j hr => mi_si_ne N v (fun q => hr (by omega))
  have e0 : mi (si N (o + 2) k v) o 7 = mi N o 7 := e 0 7 (by decide)
  exact ⟨fun j hj => (e 1 j (by decide)).trans (h1 j hj), zu_row h2, fun j hj => (e 3 j (by decide)).trans (h3 j hj), fun j hj => (e 4 j (by decide)).trans (h4 j hj), fun j hj => (e 5 j (by decide)).trans (h5 j hj), fun j hj => (e 6 j (by decide)).trans (h6 j hj), fun j hj => by rw [e0]; exact h7 j hj, by rw [e0]; exact h8, by rw [e0]; exact h9⟩
theorem JC.row4 {N : AM} {o : Nat} {S : ZS} (h : JC N o S) (k : Nat) (v : Int) : JC (si N (o + 4) k v) o (S.1, S.2.1, S.2.2.1, zu S.da k (zi v).toInt, S.2.2.2.2) := by
  obtain ⟨h1, h2, h3, h4, h5, h6, h7, h8, h9⟩ := h
  have e : ∀ r' j, r' ≠ 4 → mi (si N (o + 4) k v) (o + r') j = mi N (o + r') j := fun r' j hr => mi_si_ne N v (fun q => hr (by omega))
  have e0 : mi (si N (o + 4) k v) o 7 = mi N o 7 := e 0 7 (by decide)
  exact ⟨fun j hj => (e 1 j (by decide)).trans (h1 j hj), fun j hj => (e 2 j (by decide)).trans (h2 j hj), fun j hj => (e 3 j (by decide)).trans (h3 j hj), zu_row h4, fun j hj => (e 5 j (by decide)).trans (h5 j hj), fun j hj => (e 6 j (by decide)).trans (h6 j hj), fun j hj => by rw [e0]; exact h7 j hj, by rw [e0]; exact h8, by rw [e0]; exact h9⟩
theorem JC.row5 {N : AM} {o : Nat} {S : ZS} (h : JC N o S) (k : Nat) (v : Int) : JC (si N (o + 5) k v) o (S.1, S.2.1, S.2.2.1, S.2.2.2.1, zu S.cm k (zi v).toInt, S.2.2.2.2.2) := by
  obtain ⟨h1, h2, h3, h4, h5, h6, h7, h8, h9⟩ := h
  have e : ∀ r' j, r' ≠ 5 → mi (si N (o + 5) k v) (o + r') j = mi N (o + r') j := fun r' j hr => mi_si_ne N v (fun q => hr (by omega))
  have e0 : mi (si N (o + 5) k v) o 7 = mi N o 7 := e 0 7 (by decide)
  exact ⟨fun j hj => (e 1 j (by decide)).trans (h1 j hj), fun j hj => (e 2 j (by decide)).trans (h2 j hj), fun j hj => (e 3 j (by decide)).trans (h3 j hj), fun j hj => (e 4 j (by decide)).trans (h4 j hj), zu_row h5, fun j hj => (e 6 j (by decide)).trans (h6 j hj), fun j hj => by rw [e0]; exact h7 j hj, by rw [e0]; exact h8, by rw [e0]; exact h9⟩
theorem JC.row6 {N : AM} {o : Nat} {S : ZS} (h : JC N o S) (k : Nat) (v : Int) : JC (si N (o + 6) k v) o (S.1, S.2.1, S.2.2.1, S.2.2.2.1, S.2.2.2.2.1, zu S.mf k (zi v).toInt, S.2.2.2.2.2.2) := by
  obtain ⟨h1, h2, h3, h4, h5, h6, h7, h8, h9⟩ := h
  have e : ∀ r' j, r' ≠ 6 → mi (si N (o + 6) k v) (o + r') j = mi N (o + r') j := fun r' j hr => mi_si_ne N v (fun q => hr (by omega))
  have e0 : mi (si N (o + 6) k v) o 7 = mi N o 7 := e 0 7 (by decide)
  exact ⟨fun j hj => (e 1 j (by decide)).trans (h1 j hj), fun j hj => (e 2 j (by decide)).trans (h2 j hj), fun j hj => (e 3 j (by decide)).trans (h3 j hj), fun j hj => (e 4 j (by decide)).trans (h4 j hj), fun j hj => (e 5 j (by decide)).trans (h5 j hj), zu_row h6, fun j hj => by rw [e0]; exact h7 j hj, by rw [e0]; exact h8, by rw [e0]; exact h9⟩
theorem LI.cg {m N : AM} {o x p : Nat} {C : ZC} {g : Prop} {S : ZS} (ho : sto o) (h : LI m o x p C g N S) {b q : Int} (hb : 0 ≤ b ∧ b ≤ 5) (hq : q > 0) : LI m o x p C g (si N (o + 5) b.toNat (mi N (o + 5) b.toNat + 1)) (zwCg b q S) := by
  have hJ : JC N o S := h.2.2.2.2.2.2.1
  have e5 := hJ.2.2.2.2.1 b.toNat (by omega)
  rw [e5]
  unfold zwCg
  rw [if_pos hq]
  exact h.std ho (by decide) (by omega) (by omega) (by omega) (hJ.row5 _ _) rfl
theorem LI.cg0 {m N : AM} {o x p : Nat} {C : ZC} {g : Prop} {S : ZS} (ho : sto o) (h : LI m o x p C g N S) {b q : Int} (hb : 0 ≤ b ∧ b ≤ 5) (hq : ¬ q > 0) : LI m o x p C g (si N (o + 5) b.toNat (mi N (o + 5) b.toNat + 0)) (zwCg b q S) := by
  have hJ : JC N o S := h.2.2.2.2.2.2.1
  have e5 := hJ.2.2.2.2.1 b.toNat (by omega)
  unfold zwCg
  rw [if_neg hq]
  refine h.std ho (by decide) (by omega) (by omega) (by omega) ?_ rfl
  obtain ⟨h1, h2, h3, h4, h5, h6, h7, h8⟩ := hJ
  have e : ∀ c j, mi (si N (o + 5) b.toNat (mi N (o + 5) b.toNat + 0)) c j = mi N c j := by
    intro c j
    rw [mi_si]
    split
    · next z => rw [Int.add_zero, zi_toInt (mi_rng _ _ _).1 (mi_rng _ _ _).2, z.1, z.2]
    · rfl
  unfold JC
  simp only [e]
  exact ⟨h1, h2, h3, h4, h5, h6, h7, h8⟩
theorem LI.mis {m N : AM} {o x p : Nat} {C : ZC} {g : Prop} {S : ZS} (ho : sto o) (h : LI m o x p C g N S) {b : Int} (hb : 0 ≤ b ∧ b ≤ 5) (l : Int) : LI m o x p C g (si N (o + 6) b.toNat (z_ior (mi N (o + 6) b.toNat) (z_ishl 1 l))) (zwMis b l S) := by
  have hJ : JC N o S := h.2.2.2.2.2.2.1
  have e6 := hJ.2.2.2.2.2.1 b.toNat (by omega)
  have q := hJ.row6 b.toNat (z_ior (S.mf b.toNat) (z_ishl 1 l))
  rw [e6]
  rw [zi_toInt (z_ior_rng _ _).1 (z_ior_rng _ _).2] at q
  exact h.std ho (by decide) (by omega) (by omega) (by omega) q rfl
theorem LI.slot {m N : AM} {o x p : Nat} {C : ZC} {g : Prop} {S : ZS} (ho : sto o) (h : LI m o x p C g N S) {W : ZW} {b l v : Int} (hv : -1000000 ≤ v ∧ v ≤ 1000000) (ht : ¬ W.tg b l ≥ 10) : LI m o x p C g (si N (o + 1) (8 * b + W.tg b l).toNat v) (zwPut W b l v S) := by
  have hJ : JC N o S := h.2.2.2.2.2.2.1
  have q := hJ.row1 (8 * b + W.tg b l).toNat v
  rw [zi_toInt (by omega) (by omega)] at q
  unfold zwPut
  rw [if_neg ht]
  exact h.std ho (by decide) (fun _ => hv) (by omega) (by omega) q rfl
theorem LI.port {m N : AM} {o x p : Nat} {C : ZC} {g : Prop} {S : ZS} (ho : sto o) (h : LI m o x p C g N S) {W : ZW} {b l v : Int} (hv : -1000000 ≤ v ∧ v ≤ 1000000) (ht : W.tg b l ≥ 10) : LI m o x p C g (si N (o + 2) (4 * b + W.tg b l - 10).toNat v) (zwPut W b l v S) := by
  have hJ : JC N o S := h.2.2.2.2.2.2.1
  have q := hJ.row2 (4 * b + W.tg b l - 10).toNat v
  rw [zi_toInt (by omega) (by omega)] at q
  unfold zwPut
  rw [if_pos ht]
  exact h.std ho (by decide) (fun _ => hv) (by omega) (by omega) q rfl
/-- what the class reads is what the boxes read -/
theorem rdC_zw {m N : AM} {o : Nat} {W : ZW} {b e : Int} {C : ZC} {g : Prop} {S : ZS} (hG : GT m o W) (hb : 0 ≤ b ∧ b < W.nb) (h : LI m o (bx m b) (pg m b) C g N S) (h8 : mi N 17 8 = e) (w : Nat) (v : Int) (hw : w < 6) (h1 : w = 1 → 0 ≤ v ∧ v ≤ 7) (h2 : w = 2 → 0 ≤ v ∧ v ≤ 3) (h3 : w = 3 → 0 ≤ v ∧ v ≤ 2) : rdC N o (bx m b) w v = zwRd W C S.sl e b w v := by
  obtain ⟨t, hi, r, rc, ct, r8, j, f⟩ := h
  have hnb := hG.2.2.2.1.1
  have hok := (hG.2.2.2.1.2 b hb.1 hb.2).2.2.1
  have hB := hG.2.2.2.2 b hb.1 hb.2
  have k : ∀ j r, mi N (bx m b + r) j = mi m (bx m b + r) j := fun j r => t.cel (ntb hG.2.1 hB.2.1.1 r) j
  have k0 : ∀ j, mi N (bx m b) j = mi m (bx m b) j := fun j => t.cel (nt145 hG.2.1 hB.2.1.1) j
  unfold rdC zwRd
  by_cases w2 : w = 2
  · subst w2
    rw [if_pos rfl, if_neg (by decide), if_neg (by decide), if_pos rfl, k, hB.2.2.2.2.1 v (h2 rfl).1 (h2 rfl).2]
    have hw := hok v (h2 rfl).1 (h2 rfl).2
    unfold inC zwIn
    rw [k0, hB.2.2.1.2]
    by_cases c1 : W.wi b v < 0
    · rw [if_pos c1, if_pos c1]
    · rw [if_neg c1, if_neg c1, ct.1.2.1 (W.wi b v / 10).toNat (by omega), ct.1.1 (W.wi b v / 10 * 4 + W.wi b v % 10).toNat (by omega), show W.wi b v / 10 * 4 + W.wi b v % 10 = 4 * (W.wi b v / 10) + W.wi b v % 10 by omega]
  · rw [if_neg w2]
    unfold FX10_valueOf
    by_cases w1 : w = 1
    · subst w1
      have := h1 rfl
      rw [if_pos (by decide), if_neg (by decide), if_pos rfl, k0, hB.2.2.1.1, j.1 _ (by omega), show b * 8 + v = 8 * b + v by omega]
    · rw [if_neg (by omega)]
      by_cases w3 : w = 3
      · subst w3
        have := h3 rfl
        rw [if_pos (by decide), if_neg (by decide), if_neg (by decide), if_neg (by decide), if_pos rfl, ct.1.2.2.1 _ (by omega)]
      · rw [if_neg (by omega)]
        by_cases w4 : w = 4
        · subst w4
          rw [if_pos (by decide), if_neg (by decide), if_neg (by decide), if_neg (by decide), if_neg (by decide), if_pos rfl, ct.1.2.2.2]
        · rw [if_neg (by omega)]
          by_cases w5 : w = 5
          · subst w5
            rw [if_pos (by decide), if_neg (by decide), if_neg (by decide), if_neg (by decide), if_neg (by decide), if_neg (by decide), h8]
          · have w0 : w = 0 := by omega
            subst w0
            rw [if_neg (by decide), if_pos rfl]
theorem eK_zw {m N : AM} {o : Nat} {W : ZW} {b e : Int} {C : ZC} {g : Prop} {S : ZS} (hG : GT m o W) (hb : 0 ≤ b ∧ b < W.nb) (h : LI m o (bx m b) (pg m b) C g N S) (h8 : mi N 17 8 = e) {fr to : Int} (hw : sWF (W.cd b) (to - fr).toNat fr 0) : eK N o (bx m b) (W.cd b) fr to = zwE W C S.sl e b fr to := by
  unfold eK zwE
  have q := eV_cg (cd := W.cd b) (cd' := W.cd b) (rd := zwRd W C S.sl e b) (rd' := rdC N o (bx m b)) (d := 0) (c := (to - fr).toNat) (k := fr) (fun j _ _ => by rw [Int.add_zero]) (fun w v h6 _ h1 h2 h3 => rdC_zw hG hb h h8 w v h6 h1 h2 h3) hw
  rw [Int.add_zero] at q
  exact q
theorem zwRd_r (W : ZW) (C : ZC) (sl : Nat → Int) (e b : Int) (w : Nat) (v : Int) : 0 ≤ (zwRd W C sl e b w v).1 ∧ (zwRd W C sl e b w v).1 ≤ 4 := by
  unfold zwRd zwIn
  repeat' split
  all_goals (dsimp only; omega)
theorem zwE_r (W : ZW) (C : ZC) (sl : Nat → Int) (e b fr to : Int) : 0 ≤ (zwE W C sl e b fr to).1 ∧ (zwE W C sl e b fr to).1 ≤ 4 := sEV_r (zwRd_r W C sl e b) _ _ _ _
/-- what send() stores is within its bounds -/
theorem clip_sp (N : AM) {q v : Int} (hq : 0 ≤ q) : FJ9_max_f86c9 N ((-q) - 1) (FJ9_min_f86c9 N q v) = if v > q then q else if v < -q - 1 then -q - 1 else v := by
  unfold FJ9_max_f86c9 FJ9_min_f86c9
  (repeat' split) <;> omega
theorem most_zw {m N : AM} {o : Nat} {W : ZW} {b l : Int} (hG : GT m o W) (hb : 0 ≤ b ∧ b < W.nb) (t : TF o m N) (hl : 0 ≤ l ∧ l < W.nl b) : FX1_greatestFor N (bx m b) (W.tg b l) = zwMost W b l ∧ 1 ≤ zwMost W b l ∧ zwMost W b l ≤ 524287 := by
  have hB := hG.2.2.2.2 b hb.1 hb.2
  have hW := hG.2.2.2.1.2 b hb.1 hb.2
  have hL := (hW.2.1 l hl.1 hl.2).2.2.2.1
  have k : mi N (bx m b + 1) (W.tg b l).toNat = mi m (bx m b + 1) (W.tg b l).toNat := t.cel (ntb hG.2.1 hB.2.1.1 1) _
  unfold zwMost
  by_cases h10 : W.tg b l ≥ 10
  · rw [if_pos h10]
    unfold FX1_greatestFor
    rw [if_pos (by omega)]
    exact ⟨by decide, by decide, by decide⟩
  · rw [if_neg h10]
    have h7 := hL.2.2 (by omega)
    have e := hB.2.2.2.2.2.1 (W.tg b l) hL.1 h7
    refine ⟨?_, hW.2.2.2 (W.tg b l) hL.1 h7⟩
    rw [← e]
    unfold FX1_greatestFor
    rw [k]
/-- what send() does when nothing failed before -/
theorem send_zw {m N : AM} {o : Nat} {W : ZW} {b l v : Int} {C : ZC} {g : Prop} {S : ZS} (hG : GT m o W) (hb : 0 ≤ b ∧ b < W.nb) (hl : 0 ≤ l ∧ l < W.nl b) (h : LI m o (bx m b) (pg m b) C g N S) (h9 : mi N 17 9 = 0) (hv : -1000000000 ≤ v ∧ v ≤ 1000000000) : LI m o (bx m b) (pg m b) C g (FX10_send N o (bx m b) (pg m b) l v) (zwLand W b l v S).2 ∧ mi (FX10_send N o (bx m b) (pg m b) l v) 17 9 = (zwLand W b l v S).1 := by
  have ho := hG.2.1
  have ho2 := ho
  unfold sto at ho2
  have t := h.1
  have hnb := hG.2.2.2.1.1
  have hB := hG.2.2.2.2 b hb.1 hb.2
  have hW := hG.2.2.2.1.2 b hb.1 hb.2
  have hL := (hW.2.1 l hl.1 hl.2).2.2.2.1
  have hA := t.agL ho hB.2.1.2 (hB.2.2.2.2.2.2.2 l hl.1 hl.2)
  have k0 : mi N (bx m b) 0 = b := (t.cel (nt145 ho hB.2.1.1) 0).trans hB.2.2.1.1
  obtain ⟨hg, hg1, hg2⟩ := most_zw hG hb t hl
  have hcl := clip_sp N (q := zwMost W b l) (v := v) (by omega)
  have hwb := and_one (z_ishr (mi N (pg m b) 8) l)
  unfold FX10_send
  rw [h9, hA.2.2.2.1, hg, hcl, k0, hA.2.1, show b * 4 + W.tg b l - 10 = 4 * b + W.tg b l - 10 by omega, show b * 8 + W.tg b l = 8 * b + W.tg b l by omega]
  rw [hA.2.1] at hwb
  have c00 : ¬ (0 : Int) ≠ 0 := fun z => z rfl
  have c10 : ¬ (1 : Int) = 0 := by decide
  have c01 : (0 : Int) = 0 := rfl
  simp only [if_neg c00, if_neg c10, if_true]
  unfold zwLand
  have z9 : ∀ (K : AM) (c k : Nat) (y : Int), c ≠ 17 → mi (si K c k y) 17 9 = mi K 17 9 := fun K c k y hc => mi_si_ne K y (fun q => hc q.1.symm)
  by_cases c1 : v > zwMost W b l ∨ v < -zwMost W b l - 1
  · have hne : ¬ (if v > zwMost W b l then zwMost W b l else if v < -zwMost W b l - 1 then -zwMost W b l - 1 else v) = v := by
      split
      · omega
      · rw [if_pos (by omega)]; omega
    have ecl : (if v > zwMost W b l then zwMost W b l else if v < -zwMost W b l - 1 then -zwMost W b l - 1 else v) = (if v > zwMost W b l then zwMost W b l else -zwMost W b l - 1) := by
      split
      · rfl
      · rw [if_pos (by omega)]
    have rcl : -1000000 ≤ (if v > zwMost W b l then zwMost W b l else -zwMost W b l - 1) ∧ (if v > zwMost W b l then zwMost W b l else -zwMost W b l - 1) ≤ 1000000 := by
      split <;> omega
    rw [if_neg hne, if_pos c1, ecl, z_l2i_of (by omega) (by omega)]
    have h1 := h.mis ho (b := b) (by omega) l
    by_cases c2 : W.wa b l ≠ 0
    · have c3 : ¬ W.wa b l ≠ 1 := by
        split at hwb <;> omega
      rw [if_neg c3, if_pos c2]
      have h2 := h1.own ho (Or.inr rfl) (k := 9) (v := 0) (by decide)
      by_cases c4 : W.tg b l ≥ 10
      · rw [if_pos c4]
        refine ⟨h2.port ho rcl c4, ?_⟩
        rw [z9 _ _ _ _ (by omega), mi_si_same _ _ _ (by decide) (by decide)]
      · rw [if_neg c4]
        refine ⟨h2.slot ho rcl c4, ?_⟩
        rw [z9 _ _ _ _ (by omega), mi_si_same _ _ _ (by decide) (by decide)]
    · have c3 : W.wa b l ≠ 1 := by omega
      rw [if_pos c3, if_neg c2]
      exact ⟨h1.own ho (Or.inr rfl) (k := 9) (v := 1) (by decide), mi_si_same _ _ _ (by decide) (by decide)⟩
  · have hne : (if v > zwMost W b l then zwMost W b l else if v < -zwMost W b l - 1 then -zwMost W b l - 1 else v) = v := by
      rw [if_neg (by omega), if_neg (by omega)]
    rw [if_pos hne, if_neg c1, hne, z_l2i_of (by omega) (by omega)]
    by_cases c4 : W.tg b l ≥ 10
    · rw [if_pos c4]
      refine ⟨h.port ho (by omega) c4, ?_⟩
      rw [z9 _ _ _ _ (by omega)]
      exact h9
    · rw [if_neg c4]
      refine ⟨h.slot ho (by omega) c4, ?_⟩
      rw [z9 _ _ _ _ (by omega)]
      exact h9
theorem send_f {N : AM} {o x p : Nat} {l v : Int} (h9 : mi N 17 9 ≠ 0) : FX10_send N o x p l v = N := by
  unfold FX10_send
  rw [if_pos h9, if_neg h9]

/-- a flight of the class -/
def FLG (m : AM) (a : Nat) : Prop := ObA m a 3 fsFlight ∧ (a = 48 ∨ 145 ≤ a) ∧ (∀ k : Nat, k < 3 → mr m (a + 5) k = some (a + 6 + k) ∧ a + 6 + k < mz m ∧ mk m (a + 6 + k) = 13 ∧ mn m (a + 6 + k) = 60) ∧ (∀ j : Nat, -99999 ≤ mi m (a + 1) j ∧ mi m (a + 1) j ≤ 99999) ∧ (∀ j : Nat, -999 ≤ mi m (a + 2) j ∧ mi m (a + 2) j ≤ 999) ∧ (∀ j : Nat, 0 ≤ mi m (a + 3) j ∧ mi m (a + 3) j ≤ 99999) ∧ (∀ j : Nat, -1 ≤ mi m (a + 4) j ∧ mi m (a + 4) j ≤ 60) ∧ ∀ k : Nat, k < 3 → ∀ j : Nat, -99999 ≤ mi m (a + 6 + k) j ∧ mi m (a + 6 + k) j ≤ 99999
theorem ntf {o a : Nat} (ho : sto o) (ha : a = 48 ∨ 145 ≤ a) (d : Nat) : ¬ tcl o (a + d) := by
  unfold sto at ho
  unfold tcl
  omega
theorem TF.fg {o : Nat} {m N : AM} (t : TF o m N) (ho : sto o) {a : Nat} (h : FLG m a) : FLG N a := by
  obtain ⟨a1, a2, a3, a4, a5, a6, a7, a8⟩ := h
  have k : ∀ r j, mi N (a + r) j = mi m (a + r) j := fun r j => t.cel (ntf ho a2 r) j
  refine ⟨t.ob (by omega) a1, a2, fun i hi => ?_, fun j => ?_, fun j => ?_, fun j => ?_, fun j => ?_, fun i hi j => ?_⟩
  · rw [t.2.1 (a + 5) i (fun e => by omega), t.zz, t.kk, t.nn]; exact a3 i hi
  · rw [k]; exact a4 j
  · rw [k]; exact a5 j
  · rw [k]; exact a6 j
  · rw [k]; exact a7 j
  · rw [Nat.add_assoc, k, ← Nat.add_assoc]; exact a8 i hi j
theorem TF.felt {o : Nat} {m N : AM} (t : TF o m N) (ho : sto o) {a : Nat} (ha : a = 48 ∨ 145 ≤ a) (k i : Int) : FX3_feltAt N a k i = FX3_feltAt m a k i := by
  have e : ∀ r j, mi N (a + r) j = mi m (a + r) j := fun r j => t.cel (ntf ho ha r) j
  have e6 : ∀ j, mi N (a + 6 + k.toNat) j = mi m (a + 6 + k.toNat) j := fun j => by rw [Nat.add_assoc, e]
  unfold FX3_feltAt FJ9_max_7cf53 FJ9_min_7cf53
  simp only [e, e6]
theorem abs_mulS {x y : Int} (h : 0 ≤ x) (h2 : x ≤ 199) (h3 : -999 ≤ y) (h4 : y ≤ 999) : -198801 ≤ x * y ∧ x * y ≤ 198801 := by
  have h1 : (x * y).natAbs ≤ 199 * 999 := by
    rw [Int.natAbs_mul]
    exact Nat.mul_le_mul (by omega) (by omega)
  omega
theorem felt_rngK {m : AM} {a : Nat} (h : FLG m a) {k i : Int} (hk : 0 ≤ k ∧ k ≤ 2) : -99999 ≤ FX3_feltAt m a k i ∧ FX3_feltAt m a k i ≤ 99999 := by
  obtain ⟨-, -, -, -, -, a6, -, a8⟩ := h
  have h3 := a6 k.toNat
  have h8 := a8 k.toNat (by omega)
  unfold FX3_feltAt FJ9_max_7cf53 FJ9_min_7cf53
  repeat' split
  all_goals first
    | exact h8 _
    | (exact ⟨by decide, by decide⟩)
    | omega
theorem ct_feltK {G : QW} {m : AM} {a : Nat} {k i : Int} (h : FLG m a) (hk : 0 ≤ k ∧ k ≤ 2) (hi : 0 ≤ i ∧ i ≤ 199) : qM G mX3_feltAt 1 0 0 [vR a, vI k, vI i] m (fun r m' => r = some (vI (FX3_feltAt m a k i)) ∧ m' = m) := by
  obtain ⟨a1, a2, a3, a4, a5, a6, a7, a8⟩ := h
  have q4 := a4 k.toNat
  have q5 := a5 k.toNat
  have hm := abs_mulS (x := i) (y := mi m (a + 2) k.toNat) (by omega) (by omega) (by omega) (by omega)
  exact ct_X3_feltAt a1 (a3 k.toNat (by omega)) hk (by omega) (a7 k.toNat).2 (a6 k.toNat).1 (by omega)
/-- what a flight of the class gives at a tick -/
def feF (m : AM) (a : Nat) : Int → Nat → Int := fun t k => if k < 3 then FX3_feltAt m a k t else 0
theorem TF.fee {o : Nat} {m N : AM} (t : TF o m N) (ho : sto o) {a : Nat} (ha : a = 48 ∨ 145 ≤ a) : feF N a = feF m a := by
  funext i k
  unfold feF
  rw [t.felt ho ha]
/-- ranges of what a tick goes by, whatever it is -/
def CR (N : AM) : Prop := (∀ j : Nat, -1000000 ≤ mi N 18 j ∧ mi N 18 j ≤ 1000000) ∧ (∀ j : Nat, 0 ≤ mi N 19 j ∧ mi N 19 j ≤ 10) ∧ (∀ j : Nat, -100000 ≤ mi N 20 j ∧ mi N 20 j ≤ 100000) ∧ (0 ≤ mi N 17 8 ∧ mi N 17 8 ≤ 100)
theorem CT.cr {N : AM} {C : ZC} (h : CT N C) (h8 : 0 ≤ mi N 17 8 ∧ mi N 17 8 ≤ 100) : CR N := ⟨h.2.1, h.2.2.1, h.2.2.2.1, h8⟩
/-- what a tick begins with -/
def tk1 (m : AM) (o : Nat) (t : Int) : AM := cpi (cpi (si (sr m 17 4 (some o)) 17 7 t) 18 (o + 2) 0 0 24) 19 (o + 3) 0 0 6
theorem tk1_mi (m : AM) {o : Nat} (ho : sto o) (t : Int) : (∀ c j : Nat, c ≠ 18 → c ≠ 19 → ¬ (c = 17 ∧ j = 7) → mi (tk1 m o t) c j = mi m c j) ∧ (∀ j : Nat, mi (tk1 m o t) 18 j = if j < 24 then mi m (o + 2) j else mi m 18 j) ∧ (∀ j : Nat, mi (tk1 m o t) 19 j = if j < 6 then mi m (o + 3) j else mi m 19 j) ∧ mi (tk1 m o t) 17 7 = (zi t).toInt := by
  unfold sto at ho
  unfold tk1
  refine ⟨fun c j h1 h2 h3 => ?_, fun j => ?_, fun j => ?_, ?_⟩
  · rw [mi_cpi, if_neg (fun q => h2 q.1), mi_cpi, if_neg (fun q => h1 q.1), mi_si_ne _ _ h3]
    rfl
  · rw [mi_cpi, if_neg (fun q => absurd q.1 (by decide)), mi_cpi]
    by_cases e : j < 24
    · rw [if_pos ⟨rfl, by omega, by omega⟩, if_pos e, mi_si_ne _ _ (by omega), show 0 + (j - 0) = j by omega]
      rfl
    · rw [if_neg (by omega), if_neg e, mi_si_ne _ _ (by omega)]
      rfl
  · rw [mi_cpi]
    by_cases e : j < 6
    · rw [if_pos ⟨rfl, by omega, by omega⟩, if_pos e, mi_cpi, if_neg (by omega), mi_si_ne _ _ (by omega), show 0 + (j - 0) = j by omega]
      rfl
    · rw [if_neg (by omega), if_neg e, mi_cpi, if_neg (fun q => absurd q.1 (by decide)), mi_si_ne _ _ (by omega)]
      rfl
  · rw [mi_cpi, if_neg (fun q => absurd q.1 (by decide)), mi_cpi, if_neg (fun q => absurd q.1 (by decide)), mi_si, if_pos ⟨rfl, rfl⟩]
theorem TF.cpy {o : Nat} {m N : AM} (h : TF o m N) {c : Nat} (hc : tcl o c) (c0 sp dp n : Nat) : TF o m (cpi N c c0 sp dp n) := ⟨h.1, h.2.1, fun p j hp => by
  show (if p = c ∧ dp ≤ j ∧ j < dp + n then N.1 c0 (sp + (j - dp)) else N.1 p j) = m.1 p j
  rw [if_neg (fun e => hp (by rw [e.1]; exact hc))]
  exact h.2.2.1 p j hp, h.2.2.2⟩
theorem IM.same {m N : AM} (h : IM m) (hn : ∀ q ∈ imS, mi N q.1 q.2.1 = mi m q.1 q.2.1) (ha : ∀ q ∈ imA, ∀ j, mi N q.1 j = mi m q.1 j) (h3 : ∀ j, mi N 139 j = mi m 139 j) (h4 : mi N 86 1 = mi m 86 1) (h5 : ∀ j : Nat, j < 6 → mi N (68 + 3 * j) 2 = mi m (68 + 3 * j) 2) (h6 : mi N 0 16 = mi m 0 16) : IM N := by
  refine ⟨fun q hq => by rw [hn q hq]; exact h.1 q hq, fun q hq j => by rw [ha q hq j]; exact h.2.1 q hq j, fun j hj => ?_⟩
  rw [h3, h4, h5 j hj, h6]
  exact h.2.2 j hj
theorem JC.same {m N : AM} {o : Nat} {S : ZS} (h : JC m o S) (e : ∀ r j, r ≤ 6 → mi N (o + r) j = mi m (o + r) j) : JC N o S := by
  obtain ⟨h1, h2, h3, h4, h5, h6, h7, h8⟩ := h
  have e0 : mi N o 7 = mi m o 7 := e 0 7 (by decide)
  exact ⟨fun j hj => (e 1 j (by decide)).trans (h1 j hj), fun j hj => (e 2 j (by decide)).trans (h2 j hj), fun j hj => (e 3 j (by decide)).trans (h3 j hj), fun j hj => (e 4 j (by decide)).trans (h4 j hj), fun j hj => (e 5 j (by decide)).trans (h5 j hj), fun j hj => (e 6 j (by decide)).trans (h6 j hj), by rw [e0]; exact h7, by rw [e0]; exact h8⟩
theorem JF.same {m N : AM} {o : Nat} {S : ZS} (h : JF m o S) (e0 : mi N o 7 = mi m o 7) (e : ∀ j, mi N (o + 7) j = mi m (o + 7) j) : JF N o S := by
  unfold JF
  rw [e0, e, e, e, e]
  exact h
theorem RC.same {m N : AM} {o : Nat} (h : RC m o) (e : ∀ r j, r ≤ 6 → mi N (o + r) j = mi m (o + r) j) : RC N o := ⟨fun j => by rw [e 1 j (by decide)]; exact h.1 j, fun j => by rw [e 2 j (by decide)]; exact h.2.1 j, fun j => by rw [e 3 j (by decide)]; exact h.2.2.1 j, fun j => by rw [e 4 j (by decide)]; exact h.2.2.2 j⟩
theorem tk1_ok {m : AM} {o : Nat} {S : ZS} {g : Prop} {t : Int} (ho : sto o) (hI : IM m) (hR : RC m o) (hC : CR m) (hJ : JC m o S) (hF : g → JF m o S) (ht : 0 ≤ t ∧ t ≤ 199) : TF o m (tk1 m o t) ∧ IM (tk1 m o t) ∧ mr (tk1 m o t) 17 4 = some o ∧ RC (tk1 m o t) o ∧ CR (tk1 m o t) ∧ JC (tk1 m o t) o S ∧ (g → JF (tk1 m o t) o S) ∧ (∀ j : Nat, j < 24 → mi (tk1 m o t) 18 j = S.po j) ∧ (∀ j : Nat, j < 6 → mi (tk1 m o t) 19 j = S.fa j) ∧ mi (tk1 m o t) 17 7 = t := by
  obtain ⟨k1, k2, k3, k4⟩ := tk1_mi m ho t
  have ho2 := ho
  unfold sto at ho2
  have e : ∀ r j, r ≤ 6 → mi (tk1 m o t) (o + r) j = mi m (o + r) j := fun r j hr => k1 _ _ (by omega) (by omega) (by omega)
  refine ⟨?_, ?_, rfl, hR.same e, ⟨fun j => ?_, fun j => ?_, fun j => ?_, ?_⟩, hJ.same e, fun hg => (hF hg).same (k1 _ _ (by omega) (by omega) (by omega)) (fun j => k1 _ _ (by omega) (by omega) (by omega)), fun j hj => ?_, fun j hj => ?_, ?_⟩
  · exact ((((TF.rf o m).ref (by decide) _).cell (Or.inl (by decide)) _ _).cpy (Or.inl (by decide)) _ _ _ _).cpy (Or.inl (by decide)) _ _ _ _
  · exact hI.same (fun q hq => k1 _ _ ((by decide : ∀ q ∈ imS, q.1 ≠ 18) q hq) ((by decide : ∀ q ∈ imS, q.1 ≠ 19) q hq) (fun z => (by decide : ∀ q ∈ imS, q.1 ≠ 17) q hq z.1)) (fun q hq j => k1 _ _ ((by decide : ∀ q ∈ imA, q.1 ≠ 18) q hq) ((by decide : ∀ q ∈ imA, q.1 ≠ 19) q hq) (fun z => (by decide : ∀ q ∈ imA, q.1 ≠ 17) q hq z.1)) (fun j => k1 _ _ (by decide) (by decide) (by omega)) (k1 _ _ (by decide) (by decide) (by decide)) (fun j hj => k1 _ _ (by omega) (by omega) (by omega)) (k1 _ _ (by decide) (by decide) (by decide))
  · rw [k2]
    split
    · exact hR.2.1 j
    · exact hC.1 j
  · rw [k3]
    split
    · exact hR.2.2.1 j
    · exact hC.2.1 j
  · rw [k1 _ _ (by decide) (by decide) (by omega)]
    exact hC.2.2.1 j
  · rw [k1 _ _ (by decide) (by decide) (by decide)]
    exact hC.2.2.2
  · rw [k2, if_pos hj]
    exact hJ.2.1 j hj
  · rw [k3, if_pos hj]
    exact hJ.2.2.1 j hj
  · rw [k4, zi_toInt (by omega) (by omega)]
/-- what is felt is laid by -/
def tk2 (N : AM) (a : Nat) (t : Int) : AM := si (si (si N 20 0 (FX3_feltAt N a 0 t)) 20 1 (FX3_feltAt N a 1 t)) 20 2 (FX3_feltAt N a 2 t)
/-- while all boxes do their ticks -/
def KI (m : AM) (o : Nat) (C : ZC) (g : Prop) (N : AM) (S : ZS) : Prop := BI m o g N S ∧ mr N 17 4 = some o ∧ CT N C ∧ (0 ≤ mi N 17 8 ∧ mi N 17 8 ≤ 100)
theorem tk2_ok {m N : AM} {o a : Nat} {S : ZS} {g : Prop} {t : Int} (ho : sto o) (hT : TF o m N) (hI : IM N) (hs : mr N 17 4 = some o) (hR : RC N o) (hC : CR N) (hJ : JC N o S) (hF : g → JF N o S) (h18 : ∀ j : Nat, j < 24 → mi N 18 j = S.po j) (h19 : ∀ j : Nat, j < 6 → mi N 19 j = S.fa j) (h7 : mi N 17 7 = t) (ht : 0 ≤ t ∧ t ≤ 199) (hA : FLG N a) : KI m o (S.po, S.fa, feF N a t, t) g (tk2 N a t) S := by
  have ho2 := ho
  unfold sto at ho2
  have f0 := felt_rngK hA (k := 0) (i := t) (by decide)
  have f1 := felt_rngK hA (k := 1) (i := t) (by decide)
  have f2 := felt_rngK hA (k := 2) (i := t) (by decide)
  have e : ∀ c j, c ≠ 20 → mi (tk2 N a t) c j = mi N c j := fun c j hc => by
    unfold tk2
    rw [mi_si_ne _ _ (fun q => hc q.1), mi_si_ne _ _ (fun q => hc q.1), mi_si_ne _ _ (fun q => hc q.1)]
  have c20 : tcl o 20 := Or.inl (by decide)
  have e20 : ∀ j, mi (tk2 N a t) 20 j = if j = 2 then FX3_feltAt N a 2 t else if j = 1 then FX3_feltAt N a 1 t else if j = 0 then FX3_feltAt N a 0 t else mi N 20 j := by
    intro j
    unfold tk2
    rw [mi_si, mi_si, mi_si, zi_toInt (by omega) (by omega), zi_toInt (by omega) (by omega), zi_toInt (by omega) (by omega)]
    simp only [true_and]
  refine ⟨⟨((hT.cell c20 _ _).cell c20 _ _).cell c20 _ _, ?_, hR.same (fun r j _ => e _ _ (by omega)), hJ.same (fun r j _ => e _ _ (by omega)), fun hg => (hF hg).same (e _ _ (by omega)) (fun j => e _ _ (by omega))⟩, hs, ⟨⟨fun j hj => ?_, fun j hj => ?_, fun j hj => ?_, ?_⟩, fun j => ?_, fun j => ?_, fun j => ?_, ?_, ?_⟩, ?_⟩
  · exact ((hI.oneA (o := 20) (by decide) (by decide) (by decide) (by decide) (by decide) (by decide)).oneA (o := 20) (by decide) (by decide) (by decide) (by decide) (by decide) (by decide)).oneA (o := 20) (by decide) (by decide) (by decide) (by decide) (by decide) (by decide)
  · rw [e _ _ (by decide)]; exact h18 j hj
  · rw [e _ _ (by decide)]; exact h19 j hj
  · rw [e20]
    have hj3 : j = 0 ∨ j = 1 ∨ j = 2 := by omega
    rcases hj3 with rfl | rfl | rfl <;> rfl
  · rw [e _ _ (by decide)]; exact h7
  · rw [e _ _ (by decide)]; exact hC.1 j
  · rw [e _ _ (by decide)]; exact hC.2.1 j
  · rw [e20]
    have := hC.2.2.1 j
    repeat' split
    all_goals omega
  · rw [e _ _ (by decide), h7]; exact ht.1
  · rw [e _ _ (by decide), h7]; exact ht.2
  · rw [e _ _ (by decide)]; exact hC.2.2.2


/-! the start: both sides made, what holds between calls holds -/
def ZI (S : Nat → Nat → Prop) (m : AM) : Prop := ∀ o j : Nat, ¬ S o j → m.1 o j = 0
theorem ZI.at {S : Nat → Nat → Prop} {m : AM} {z kd len : Nat} (h : ZI S m) : ZI S (am_at m z kd len) := fun o j hs => by
  show (if o = z then 0 else m.1 o j) = 0
  split
  · rfl
  · exact h o j hs
theorem ZI.nw {S : Nat → Nat → Prop} {m : AM} {kd len : Nat} (h : ZI S m) : ZI S (am_new m kd len) := fun o j hs => by
  show (if o = mz m then 0 else m.1 o j) = 0
  split
  · rfl
  · exact h o j hs
theorem ZI.mna {S : Nat → Nat → Prop} {m : AM} {n k : Nat} (h : ZI S m) : ZI S (mnaM m n k) := fun o j hs => by
  show (if mz m ≤ o then 0 else m.1 o j) = 0
  split
  · rfl
  · exact h o j hs
theorem ZI.sr {S : Nat → Nat → Prop} {m : AM} {p k : Nat} {v : Option Nat} (h : ZI S m) : ZI S (sr m p k v) := h
theorem ZI.si {S : Nat → Nat → Prop} {m : AM} {p k : Nat} {v : Int} (hs : S p k) (h : ZI S m) : ZI S (si m p k v) := fun o j ho => by
  show (if o = p ∧ j = k then v else m.1 o j) = 0
  rw [if_neg (fun q => ho (by rw [q.1, q.2]; exact hs))]
  exact h o j ho
theorem ZI.fil {S : Nat → Nat → Prop} {m : AM} {p : Nat} {a e v : Int} (hs : ∀ j : Nat, a ≤ (j : Int) → (j : Int) < e → S p j) (h : ZI S m) : ZI S (fil m p a e v) := fun o j ho => by
  show (if o = p ∧ a ≤ (j : Int) ∧ (j : Int) < e then v else m.1 o j) = 0
  rw [if_neg (fun q => ho (by rw [q.1]; exact hs j q.2.1 q.2.2))]
  exact h o j ho
theorem ZI.arz {S : Nat → Nat → Prop} (x : Nat) : ∀ (z : Nat) (t : List (Nat × Nat × Nat)) {m : AM}, ZI S m → ZI S (arz x z t m)
  | _, [], _, h => h
  | z, (kd, len, f) :: t, _, h => ZI.arz x (z + 1) t (ZI.sr (ZI.at h))
theorem ZI.pgI {S : Nat → Nat → Prop} {m : AM} (o : Nat) (h : ZI S m) : ZI S (pgI m o) := ZI.sr (ZI.nw (ZI.sr (ZI.nw (ZI.sr (ZI.nw (ZI.sr (ZI.nw (ZI.sr (ZI.nw h)))))))))
/-- what is not 0 at the start -/
def exS (o j : Nat) : Prop := (o = 0 ∧ j = 18) ∨ (o = 11 ∧ j < 240) ∨ ((o = 51 ∨ o = 52) ∧ j < 3) ∨ ((68 ≤ o ∧ o ≤ 83 ∧ o % 3 = 2) ∧ (j = 2 ∨ j = 3)) ∨ ((o = 90 ∨ o = 139) ∧ j < 6)
theorem ZI.flI {m : AM} (h : ZI exS m) : ZI exS (flI m 48) := ZI.fil (fun j a b => by unfold exS; omega) (ZI.fil (fun j a b => by unfold exS; omega) (ZI.sr (ZI.mna (ZI.sr (ZI.nw (ZI.sr (ZI.nw (ZI.sr (ZI.nw (ZI.sr (ZI.nw h)))))))))))
theorem zi_am0 : ZI exS am0 := fun _ _ _ => rfl
theorem zi_nb0 : ZI exS nb0 := (ZI.at zi_am0)
theorem zi_nb1 : ZI exS nb1 := (ZI.sr (ZI.arz _ _ _ (ZI.at zi_nb0)))
theorem zi_nb2 : ZI exS nb2 := (ZI.sr (ZI.at zi_nb1))
theorem zi_nb3 : ZI exS nb3 := (ZI.sr (ZI.at zi_nb2))
theorem zi_nb4 : ZI exS nb4 := (ZI.sr (ZI.at zi_nb3))
theorem zi_nb5 : ZI exS nb5 := (ZI.sr (ZI.fil (fun j a b => by unfold exS; omega) (ZI.arz _ _ _ (ZI.at zi_nb4))))
theorem zi_nb6 : ZI exS nb6 := (ZI.sr (ZI.arz _ _ _ (ZI.at zi_nb5)))
theorem zi_nb7 : ZI exS nb7 := (ZI.sr (ZI.arz _ _ _ (ZI.at zi_nb6)))
theorem zi_nb8 : ZI exS nb8 := (ZI.sr (ZI.arz _ _ _ (ZI.at zi_nb7)))
theorem zi_nb9 : ZI exS nb9 := (ZI.sr (ZI.arz _ _ _ (ZI.at zi_nb8)))
theorem zi_nb10 : ZI exS nb10 := (ZI.sr (ZI.arz _ _ _ (ZI.at zi_nb9)))
theorem zi_nb11 : ZI exS nb11 := (ZI.sr (ZI.arz _ _ _ (ZI.at zi_nb10)))
theorem zi_nb12 : ZI exS nb12 := (ZI.sr (ZI.flI (ZI.at zi_nb11)))
theorem zi_nb13 : ZI exS nb13 := (ZI.sr (ZI.at zi_nb12))
theorem zi_nb14 : ZI exS nb14 := (ZI.sr (ZI.at zi_nb13))
theorem zi_nb15 : ZI exS nb15 := (ZI.sr (ZI.arz _ _ _ (ZI.at zi_nb14)))
theorem zi_nb16 : ZI exS nb16 := (ZI.sr (ZI.pgI _ (ZI.at zi_nb15)))
theorem zi_nb17 : ZI exS nb17 := (ZI.si (by unfold exS; omega) zi_nb16)
theorem zi_nb18 : ZI exS nb18 := (ZI.sr (ZI.si (by unfold exS; omega) (ZI.si (by unfold exS; omega) (ZI.arz _ _ _ (ZI.at zi_nb17)))))
theorem zi_nb19 : ZI exS nb19 := (ZI.sr (ZI.si (by unfold exS; omega) (ZI.si (by unfold exS; omega) (ZI.arz _ _ _ (ZI.at zi_nb18)))))
theorem zi_nb20 : ZI exS nb20 := (ZI.sr (ZI.si (by unfold exS; omega) (ZI.si (by unfold exS; omega) (ZI.arz _ _ _ (ZI.at zi_nb19)))))
theorem zi_nb21 : ZI exS nb21 := (ZI.sr (ZI.si (by unfold exS; omega) (ZI.si (by unfold exS; omega) (ZI.arz _ _ _ (ZI.at zi_nb20)))))
theorem zi_nb22 : ZI exS nb22 := (ZI.sr (ZI.si (by unfold exS; omega) (ZI.si (by unfold exS; omega) (ZI.arz _ _ _ (ZI.at zi_nb21)))))
theorem zi_nb23 : ZI exS nb23 := (ZI.sr (ZI.si (by unfold exS; omega) (ZI.si (by unfold exS; omega) (ZI.arz _ _ _ (ZI.at zi_nb22)))))
theorem zi_mo0 : ZI exS mo0 := (ZI.at zi_nb23)
theorem zi_mo1 : ZI exS mo1 := (ZI.sr (ZI.at zi_mo0))
theorem zi_mo2 : ZI exS mo2 := (ZI.sr (ZI.at zi_mo1))
theorem zi_mo3 : ZI exS mo3 := (ZI.sr (ZI.at zi_mo2))
theorem zi_mo4 : ZI exS mo4 := (ZI.sr (ZI.si (by unfold exS; omega) (ZI.si (by unfold exS; omega) (ZI.si (by unfold exS; omega) (ZI.si (by unfold exS; omega) (ZI.si (by unfold exS; omega) (ZI.si (by unfold exS; omega) (ZI.at zi_mo3))))))))
theorem zi_mo5 : ZI exS mo5 := (ZI.sr (ZI.at zi_mo4))
theorem zi_mo6 : ZI exS mo6 := (ZI.sr (ZI.at zi_mo5))
theorem zi_mo7 : ZI exS mo7 := (ZI.sr (ZI.at zi_mo6))
theorem zi_mo8 : ZI exS mo8 := (ZI.sr (ZI.at zi_mo7))
theorem zi_mo9 : ZI exS mo9 := (ZI.sr (ZI.at zi_mo8))
theorem zi_mo10 : ZI exS mo10 := (ZI.sr (ZI.at zi_mo9))
theorem zi_mo11 : ZI exS mo11 := (ZI.sr (ZI.at zi_mo10))
theorem zi_mo12 : ZI exS mo12 := (ZI.sr (ZI.at zi_mo11))
theorem zi_mo13 : ZI exS mo13 := (ZI.sr (ZI.at zi_mo12))
theorem zi_mo14 : ZI exS mo14 := (ZI.sr (ZI.at zi_mo13))
theorem zi_mo15 : ZI exS mo15 := (ZI.sr (ZI.at zi_mo14))
theorem zi_mo16 : ZI exS mo16 := (ZI.sr (ZI.at zi_mo15))
theorem zi_mo17 : ZI exS mo17 := (ZI.sr (ZI.at zi_mo16))
theorem zi_mo18 : ZI exS mo18 := (ZI.sr (ZI.at zi_mo17))
theorem zi_mo19 : ZI exS mo19 := (ZI.sr (ZI.at zi_mo18))
theorem zi_mo20 : ZI exS mo20 := (ZI.sr (ZI.at zi_mo19))
theorem zi_mo21 : ZI exS mo21 := (ZI.sr (ZI.at zi_mo20))
theorem zi_mo22 : ZI exS mo22 := (ZI.sr (ZI.at zi_mo21))
theorem zi_mo23 : ZI exS mo23 := (ZI.sr (ZI.at zi_mo22))
theorem zi_mo24 : ZI exS mo24 := (ZI.sr (ZI.at zi_mo23))
theorem zi_mo25 : ZI exS mo25 := (ZI.sr (ZI.at zi_mo24))
theorem zi_mo26 : ZI exS mo26 := (ZI.sr (ZI.at zi_mo25))
theorem zi_mo27 : ZI exS mo27 := (ZI.sr (ZI.at zi_mo26))
theorem zi_mo28 : ZI exS mo28 := (ZI.sr (ZI.at zi_mo27))
theorem zi_mo29 : ZI exS mo29 := (ZI.sr (ZI.at zi_mo28))
theorem zi_mo30 : ZI exS mo30 := (ZI.sr (ZI.at zi_mo29))
theorem zi_mo31 : ZI exS mo31 := (ZI.sr (ZI.at zi_mo30))
theorem zi_mo32 : ZI exS mo32 := (ZI.sr (ZI.at zi_mo31))
theorem zi_mo33 : ZI exS mo33 := (ZI.sr (ZI.at zi_mo32))
theorem zi_mo34 : ZI exS mo34 := (ZI.sr (ZI.at zi_mo33))
theorem zi_mo35 : ZI exS mo35 := (ZI.sr (ZI.at zi_mo34))
theorem zi_mo36 : ZI exS mo36 := (ZI.sr (ZI.at zi_mo35))
theorem zi_mo37 : ZI exS mo37 := (ZI.sr (ZI.at zi_mo36))
theorem zi_mo38 : ZI exS mo38 := (ZI.sr (ZI.at zi_mo37))
theorem zi_mo39 : ZI exS mo39 := (ZI.sr (ZI.at zi_mo38))
theorem zi_mo40 : ZI exS mo40 := (ZI.sr (ZI.at zi_mo39))
theorem zi_mo41 : ZI exS mo41 := (ZI.sr (ZI.at zi_mo40))
theorem zi_mo42 : ZI exS mo42 := (ZI.sr (ZI.at zi_mo41))
theorem zi_mo43 : ZI exS mo43 := (ZI.sr (ZI.at zi_mo42))
theorem zi_mo44 : ZI exS mo44 := (ZI.sr (ZI.at zi_mo43))
theorem zi_mo45 : ZI exS mo45 := (ZI.sr (ZI.at zi_mo44))
theorem zi_mo46 : ZI exS mo46 := (ZI.sr (ZI.at zi_mo45))
theorem zi_mo47 : ZI exS mo47 := (ZI.sr (ZI.at zi_mo46))
theorem zi_mo48 : ZI exS mo48 := (ZI.sr (ZI.at zi_mo47))
theorem zi_mo49 : ZI exS mo49 := (ZI.sr (ZI.at zi_mo48))
theorem zi_mo50 : ZI exS mo50 := (ZI.sr (ZI.at zi_mo49))
theorem zi_mo51 : ZI exS mo51 := (ZI.sr (ZI.at zi_mo50))
theorem zi_mo52 : ZI exS mo52 := (ZI.sr (ZI.at zi_mo51))
theorem zi_mo53 : ZI exS mo53 := (ZI.sr (ZI.si (by unfold exS; omega) (ZI.si (by unfold exS; omega) (ZI.si (by unfold exS; omega) (ZI.si (by unfold exS; omega) (ZI.si (by unfold exS; omega) (ZI.si (by unfold exS; omega) (ZI.at zi_mo52))))))))
theorem zi_mo54 : ZI exS mo54 := (ZI.sr (ZI.at zi_mo53))
theorem zi_mo55 : ZI exS mo55 := (ZI.sr (ZI.at zi_mo54))
theorem zi_mo56 : ZI exS mo56 := (ZI.sr (ZI.at zi_mo55))
theorem zi_mo57 : ZI exS mo57 := (ZI.sr (ZI.at zi_mo56))
theorem zi_mo58 : ZI exS mo58 := (ZI.sr (ZI.at zi_mo57))
theorem start_0 {o j : Nat} (h : ¬ exS o j) : mi mo58 o j = 0 := by
  show (zi (mo58.1 o j)).toInt = 0
  rw [zi_mo58 o j h]
  rfl
theorem start_st : St mo58 := ⟨by decide +kernel, (by decide +kernel : ∀ n, n < 145 → mk mo58 n = kL.getD n 0 ∧ mn mo58 n = nL.getD n 0), (by decide +kernel : ∀ q ∈ rL, mr mo58 q.1 q.2.1 = some q.2.2)⟩
theorem start_v : (mi mo58 0 18 = -1 ∧ mi mo58 0 16 = 0 ∧ mi mo58 86 1 = 0) ∧ (∀ j : Nat, j < 240 → mi mo58 11 j = -1) ∧ (∀ j : Nat, j < 3 → mi mo58 51 j = 99999 ∧ mi mo58 52 j = -1) ∧ (∀ s : Nat, s < 6 → mi mo58 (68 + 3 * s) 2 = -1 ∧ mi mo58 (68 + 3 * s) 3 = -1) ∧ ∀ j : Nat, j < 6 → mi mo58 90 j = -1 ∧ mi mo58 139 j = -1 := by decide +kernel
theorem start_im : IM mo58 := by
  refine ⟨by decide +kernel, fun q hq j => ?_, fun j hj => ?_⟩
  · have n := (by decide : ∀ q ∈ imA, q.1 ≠ 0 ∧ q.1 ≠ 11 ∧ q.1 ≠ 52 ∧ ¬ (68 ≤ q.1 ∧ q.1 ≤ 83 ∧ q.1 % 3 = 2) ∧ q.2.1 ≤ 0 ∧ 0 ≤ q.2.2 ∧ (q.1 = 51 → 99999 ≤ q.2.2) ∧ (q.1 = 90 ∨ q.1 = 139 → q.2.1 ≤ -1)) q hq
    by_cases c : exS q.1 j
    · obtain ⟨n1, n2, n3, n4, n5, n6, n7, n8⟩ := n
      rcases c with c | c | ⟨c | c, d⟩ | c | ⟨c | c, d⟩
      · exact absurd c.1 n1
      · exact absurd c.1 n2
      · have v := (start_v.2.2.1 j d).1
        have := n7 c
        rw [c, v]; omega
      · exact absurd c n3
      · exact absurd c.1 n4
      · have v := (start_v.2.2.2.2 j d).1
        have := n8 (Or.inl c)
        rw [c, v]; omega
      · have v := (start_v.2.2.2.2 j d).2
        have := n8 (Or.inr c)
        rw [c, v]; omega
    · rw [start_0 c]
      exact ⟨n.2.2.2.2.1, n.2.2.2.2.2.1⟩
  · have v1 := start_v.1
    have v2 := start_v.2.2.2.2 j hj
    have v3 := start_v.2.2.2.1 j hj
    omega
theorem start_fl : FLG mo58 48 := by
  refine ⟨by unfold ObA; decide +kernel, Or.inl rfl, by decide +kernel, fun j => ?_, fun j => ?_, fun j => ?_, fun j => ?_, fun k hk j => ?_⟩
  · rw [start_0 (by unfold exS; omega)]; decide
  · rw [start_0 (by unfold exS; omega)]; decide
  · by_cases c : j < 3
    · rw [(start_v.2.2.1 j c).1]; decide
    · rw [start_0 (by unfold exS; omega)]; decide
  · by_cases c : j < 3
    · rw [(start_v.2.2.1 j c).2]; decide
    · rw [start_0 (by unfold exS; omega)]; decide
  · rw [start_0 (by unfold exS; omega)]; decide
theorem start_inv : Inv mo58 := by
  have z : ∀ o j : Nat, (o ≠ 0 ∨ j ≠ 18) → o ≠ 11 → o ≠ 51 → o ≠ 52 → ¬ (68 ≤ o ∧ o ≤ 83 ∧ o % 3 = 2) → o ≠ 90 → o ≠ 139 → mi mo58 o j = 0 := fun o j h1 h2 h3 h4 h5 h6 h7 => start_0 (by unfold exS; omega)
  have v := start_v
  have b0 : mi mo58 0 16 = 0 := v.1.2.1
  have b1 : mi mo58 86 1 = 0 := v.1.2.2
  have f0 : mi mo58 0 17 = 0 := z 0 17 (by omega) (by omega) (by omega) (by omega) (by omega) (by omega) (by omega)
  have f1 : mi mo58 86 21 = 0 := z 86 21 (by omega) (by omega) (by omega) (by omega) (by omega) (by omega) (by omega)
  have p1 : mi mo58 86 70 = 0 := z 86 70 (by omega) (by omega) (by omega) (by omega) (by omega) (by omega) (by omega)
  have hi : ∀ o j : Nat, 86 ≤ o → o ≠ 90 → o ≠ 139 → mi mo58 o j = 0 := fun o j h1 h2 h3 => z o j (by omega) (by omega) (by omega) (by omega) (by omega) h2 h3
  have lo : ∀ o j : Nat, 12 ≤ o → o ≤ 50 → mi mo58 o j = 0 := fun o j h1 h2 => z o j (by omega) (by omega) (by omega) (by omega) (by omega) (by omega) (by omega)
  have ri : RI mo58 := by
    refine ⟨⟨⟨start_st, start_im, fun j => ?_, fun j => ?_, fun j => ?_, fun j => ?_, ?_, ?_, fun j _ => ?_⟩, fun j => ?_, fun j => ?_⟩, ⟨fun j => ?_, fun j => ?_, fun k k1 k2 => ?_⟩, ?_, fun b j q0 q1 => ?_⟩
    · rw [hi 110 j (by omega) (by omega) (by omega)]; decide
    · rw [hi 106 j (by omega) (by omega) (by omega)]; decide
    · rw [hi 109 j (by omega) (by omega) (by omega)]; decide
    · rw [hi 114 j (by omega) (by omega) (by omega)]; decide
    · rw [hi 86 39 (by omega) (by omega) (by omega)]; decide
    · rw [hi 86 40 (by omega) (by omega) (by omega)]; decide
    · rw [hi 89 j (by omega) (by omega) (by omega)]; decide
    · rw [hi 107 j (by omega) (by omega) (by omega)]; decide
    · rw [hi 108 j (by omega) (by omega) (by omega)]; decide
    · rw [hi 111 j (by omega) (by omega) (by omega)]; decide
    · rw [hi 112 j (by omega) (by omega) (by omega)]; decide
    · rw [hi 86 k (by omega) (by omega) (by omega)]; decide
    · rw [hi 86 45 (by omega) (by omega) (by omega)]; decide
    · rw [b1] at q1; omega
  have rs : RS mo58 := ⟨ri, fun b s q0 q1 => by rw [b1] at q1; omega, fun j q0 q1 => by
    rw [hi 123 _ (by omega) (by omega) (by omega), hi 124 _ (by omega) (by omega) (by omega)]
    exact Int.le_refl _⟩
  have rp : RP mo58 := fun p q0 q1 => by rw [p1] at q1; omega
  have rc : ∀ o, sto o → RC mo58 o := fun o ho => by
    unfold sto at ho
    refine ⟨fun j => ?_, fun j => ?_, fun j => ?_, fun j => ?_⟩
    · rw [lo _ _ (by omega) (by omega)]; decide
    · rw [lo _ _ (by omega) (by omega)]; decide
    · rw [lo _ _ (by omega) (by omega)]; decide
    · rw [lo _ _ (by omega) (by omega)]; decide
  have qr : QR mo58 := by
    refine ⟨⟨rs, rp⟩, ⟨by rw [b0, b1], fun b q0 q1 => by rw [b1] at q1; omega⟩, ⟨by rw [f0, f1], fun f q0 q1 => by rw [f1] at q1; omega⟩, ⟨rc 24 (Or.inl rfl), rc 32 (Or.inr (Or.inl rfl)), rc 40 (Or.inr (Or.inr rfl))⟩, ⟨fun j => ?_, fun j => ?_, fun j => ?_, ?_⟩, start_fl⟩
    · rw [lo _ _ (by omega) (by omega)]; decide
    · rw [lo _ _ (by omega) (by omega)]; decide
    · rw [lo _ _ (by omega) (by omega)]; decide
    · rw [lo _ _ (by omega) (by omega)]; decide
  have r15 : mr mo58 0 15 = some 62 := by decide +kernel
  refine ⟨qr, ⟨fun b q0 q1 => by rw [b0] at q1; omega, fun b c q0 q1 => by rw [b0] at q1; omega, fun f q0 q1 => by rw [f0] at q1; omega, fun f g q0 q1 => by rw [f0] at q1; omega, fun b f q0 q1 => by rw [b0] at q1; omega, 62, r15, Or.inl rfl, fun b q0 q1 => by rw [b0] at q1; omega⟩, fun b q0 q1 => by rw [b0] at q1; omega, fun j hj => ⟨?_, ?_⟩, ⟨?_, fun j hj => ?_⟩, ⟨?_, fun p q0 q1 => by rw [p1] at q1; omega, fun p q q0 q1 q2 q3 => Or.inl ⟨v.2.1 _ (by omega), ?_⟩⟩, fun s hs => ⟨fun c => absurd (v.2.2.2.1 s hs).2 c, ?_⟩, Or.inl ⟨?_, v.1.1⟩, ⟨?_, fun j hj => ?_⟩, ⟨?_, fun j hj => ?_⟩, fun j hj => (v.2.2.1 j hj).2, fun b q0 q1 => ?_, ⟨⟨?_, fun q hq => ?_⟩, fun b q0 q1 => by rw [b0] at q1; omega⟩⟩
  · rw [lo 13 _ (by omega) (by omega), hi 123 _ (by omega) (by omega) (by omega)]
  · rw [lo 14 _ (by omega) (by omega), hi 124 _ (by omega) (by omega) (by omega)]
  · rw [z 1 1 (by omega) (by omega) (by omega) (by omega) (by omega) (by omega) (by omega), hi 86 16 (by omega) (by omega) (by omega)]
  · rw [hi 86 16 (by omega) (by omega) (by omega)] at hj; omega
  · rw [z 6 5 (by omega) (by omega) (by omega) (by omega) (by omega) (by omega) (by omega), p1]
  · exact hi 137 _ (by omega) (by omega) (by omega)
  · rw [if_neg (fun c => c (v.2.2.2.1 s hs).2), (v.2.2.2.1 s hs).1, (v.2.2.2.2 s hs).2]
  · exact hi 86 50 (by omega) (by omega) (by omega)
  · rw [z 0 19 (by omega) (by omega) (by omega) (by omega) (by omega) (by omega) (by omega), hi 86 62 (by omega) (by omega) (by omega)]
  · rw [z 57 j (by omega) (by omega) (by omega) (by omega) (by omega) (by omega) (by omega), hi 125 j (by omega) (by omega) (by omega)]
  · rw [z 22 1 (by omega) (by omega) (by omega) (by omega) (by omega) (by omega) (by omega), hi 86 76 (by omega) (by omega) (by omega)]
  · rw [z 23 j (by omega) (by omega) (by omega) (by omega) (by omega) (by omega) (by omega), hi 138 j (by omega) (by omega) (by omega)]
  · rw [b1] at q0
    exact ⟨hi 91 _ (by omega) (by omega) (by omega), (v.2.2.2.2 b.toNat (by omega)).1⟩
  · rw [b0, f0]
    have : mz mo58 = 145 := by decide +kernel
    rw [this]
    rfl
  · rw [r15] at hq
    obtain rfl := Option.some.inj hq
    unfold ObA
    decide +kernel

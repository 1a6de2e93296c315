/-! the reference's rows hold what boxes are told, and how they stand -/
/-- the rows that a box's tick only reads -/
def F3 (m N : AM) : Prop := ∀ o j : Nat, (o = 109 ∨ o = 110 ∨ o = 114) → mi N o j = mi m o j
theorem F3.rf (m : AM) : F3 m m := fun _ _ _ => rfl
theorem F3.trans {m M N : AM} (h : F3 m M) (h2 : F3 M N) : F3 m N := fun o j ho => (h2 o j ho).trans (h o j ho)
theorem F3.one {m N : AM} (h : F3 m N) {o k : Nat} (ho : ¬ (o = 109 ∨ o = 110 ∨ o = 114)) (v : Int) : F3 m (si N o k v) := fun p j hp => (mi_si_ne N v (fun q => ho (by rw [← q.1]; exact hp))).trans (h p j hp)
theorem F3.stretch {m N : AM} (h : F3 m N) {o : Nat} (ho : ¬ (o = 109 ∨ o = 110 ∨ o = 114)) (a e v : Int) : F3 m (fil N o a e v) := fun p j hp => by
  rw [mi_fil, if_neg (fun q => ho (by rw [← q.1]; exact hp))]
  exact h p j hp
theorem F3.put {m N : AM} (h : F3 m N) (b k v : Int) : F3 m (putX N b k v) := by
  unfold putX
  split
  · exact (h.one (by omega) _).one (by omega) _
  · exact h.one (by omega) _
theorem F3.land {m N : AM} (h : F3 m N) (b l k v : Int) : F3 m (landM N b l k v).2 := by
  unfold landM
  split
  · split
    · exact h.put _ _ _
    · exact h
  · exact h.put _ _ _
theorem F3.second {m N : AM} (h : F3 m N) (b l k : Int) : F3 m (doB N b l k).2 := by
  unfold doB
  split
  · exact h
  · exact h.land _ _ _ _
theorem F3.line {m N : AM} (h : F3 m N) (b l : Int) : F3 m (doM N b l).2 := by
  unfold doM
  split
  · split
    · exact h
    · split
      · exact h
      · exact h.second _ _ _
  · exact h.second _ _ _
theorem F3.cg {m N : AM} (h : F3 m N) (b p : Int) : F3 m (cgM N b p) := by
  unfold cgM
  split
  · exact (h.one (by omega) _).one (by omega) _
  · exact h.one (by omega) _
theorem F3.kill {m N : AM} (h : F3 m N) (b y : Int) : F3 m (FX12_kill N b y) := by
  unfold FX12_kill
  exact ((h.one (by omega) _).stretch (by omega) _ _ _).stretch (by omega) _ _ _
theorem F3.tail {m N : AM} (h : F3 m N) (b p i : Int) : F3 m (FT_tickOf N b p i) := by
  have a := (h.kill b p).one (o := 112) (k := b.toNat) (by omega) (mi (FX12_kill N b p) 86 39)
  unfold FT_tickOf
  split
  · split
    · exact (((a.one (o := 86) (k := 35) (by omega) _).one (o := 86) (k := 36) (by omega) _).one (o := 86) (k := 37) (by omega) _).one (o := 86) (k := 38) (by omega) _
    · exact a
  · exact h
theorem F3.lines {m : AM} {b : Int} : ∀ (c : Nat) (l p i : Int) (N : AM), F3 m N → F3 m (tkL b c l p i N).2.2 := by
  intro c
  induction c with
  | zero => intro l p i N h; exact h
  | succ c ih =>
    intro l p i N h
    by_cases hc2 : mi N 92 ((12 * b) + l).toNat = (if p > 0 then 1 else 0)
    · have e : tkL b (c + 1) l p i N = tkL b c (l + 1) (doM (cgM N b p) b l).1 l (doM (cgM N b p) b l).2 := if_pos hc2
      rw [e]
      exact ih (l + 1) (doM (cgM N b p) b l).1 l (doM (cgM N b p) b l).2 ((h.cg b p).line b l)
    · have e : tkL b (c + 1) l p i N = tkL b c (l + 1) p i N := if_neg hc2
      rw [e]
      exact ih (l + 1) p i N h
theorem F3.tick (m : AM) (b : Int) : F3 m (tkM m b) := (F3.lines _ _ _ _ _ (F3.rf m)).tail _ _ _
theorem F3.boxK {m N : AM} (h : F3 m N) (b : Int) : F3 m (bxK N b) := by
  unfold bxK
  split
  · exact h.kill _ _
  · exact h
theorem F3.boxT {m N : AM} (h : F3 m N) (b : Int) : F3 m (bxT N b) := by
  unfold bxT
  split
  · exact h.boxK b
  · exact (h.boxK b).trans (F3.tick _ _)
/-- what boxes are told, read off the reference's rows -/
def wM (m : AM) : ZW := (mi m 86 1, fun b => mi m 87 b.toNat, fun b i => mi m 89 (4 * b + i).toNat, fun b => mi m 91 b.toNat, fun b l => mi m 92 ((12 * b) + l).toNat, fun b l => if 0 ≤ b then watX m b l ((12 * b) + l) else 0, fun b l => mi m 94 ((12 * b) + l).toNat, fun b l => (mi m 95 ((12 * b) + l).toNat, mi m 96 ((12 * b) + l).toNat, mi m 97 ((12 * b) + l).toNat), fun b j => cdX m ((170 * b) + j), fun b r => FX12_mostOf m (mi m 88 ((8 * b) + r).toNat))
theorem wM_rows {m N : AM} (h : ∀ o ∈ ([87, 88, 89, 91, 92, 93, 94, 95, 96, 97, 98, 99] : List Nat), ∀ j : Nat, mi N o j = mi m o j) (h1 : mi N 86 1 = mi m 86 1) (h48 : mi N 86 48 = mi m 86 48) (h49 : mi N 86 49 = mi m 86 49) : wM N = wM m := by
  have e : ∀ o ∈ ([87, 88, 89, 91, 92, 93, 94, 95, 96, 97, 98, 99] : List Nat), mi N o = mi m o := fun o ho => funext (h o ho)
  have m0 : FX12_mostOf N = FX12_mostOf m := rfl
  unfold wM watX cdX
  simp only [m0, e 87 (by decide), e 88 (by decide), e 89 (by decide), e 91 (by decide), e 92 (by decide), e 93 (by decide), e 94 (by decide), e 95 (by decide), e 96 (by decide), e 97 (by decide), e 98 (by decide), e 99 (by decide), h1, h48, h49]
theorem wM_eq {m N : AM} (h : FR m N) (hq : Fq m N) : wM N = wM m := by
  refine wM_rows (fun o ho j => h.cell ?_ ?_) (hq 1 (by decide)) (hq 48 (by decide)) (hq 49 (by decide))
  · exact (by decide : ∀ o ∈ ([87, 88, 89, 91, 92, 93, 94, 95, 96, 97, 98, 99] : List Nat), ¬ (106 ≤ o ∧ o ≤ 114)) o ho
  · exact fun q => (by decide : ∀ o ∈ ([87, 88, 89, 91, 92, 93, 94, 95, 96, 97, 98, 99] : List Nat), o ≠ 86) o ho q.1
/-- the reference's rows hold how the boxes stand -/
def JM (M : AM) (S : ZS) : Prop := (∀ j : Nat, j < 48 → mi M 106 j = S.sl j) ∧ (∀ j : Nat, j < 24 → mi M 107 j = S.po j) ∧ (∀ b p : Nat, b < 6 → p < 4 → mi M 108 (4 * b + p) = S.fa b) ∧ (∀ b : Nat, b < 6 → mi M 111 b = if S.fa b ≠ 0 then 1 else 0) ∧ (∀ b : Nat, b < 6 → mi M 112 b = S.da b) ∧ (∀ b : Nat, b < 6 → mi M 113 b = S.cm b) ∧ mi M 86 35 = S.fi.1 ∧ (0 ≤ S.fi.1 → mi M 86 36 = S.fi.2.1 ∧ mi M 86 37 = S.fi.2.2.1 ∧ mi M 86 38 = S.fi.2.2.2)
/-- and what the tick goes by -/
def CM (M : AM) (C : ZC) : Prop := (∀ j : Nat, j < 24 → mi M 109 j = C.po j) ∧ (∀ b p : Nat, b < 6 → p < 4 → mi M 110 (4 * b + p) = C.fa b) ∧ (∀ j : Nat, j < 3 → mi M 114 j = C.fe j) ∧ mi M 86 39 = C.t
theorem CM.of {m N : AM} {C : ZC} (h : CM m C) (h3 : F3 m N) (hq : Fq m N) : CM N C := ⟨fun j hj => (h3 109 j (Or.inl rfl)).trans (h.1 j hj), fun b p hb hp => (h3 110 _ (Or.inr (Or.inl rfl))).trans (h.2.1 b p hb hp), fun j hj => (h3 114 j (Or.inr (Or.inr rfl))).trans (h.2.2.1 j hj), (hq 39 (by decide)).trans h.2.2.2⟩
theorem sWF_cg2 {cd cd' : Int → Nat × Int} {d : Int} : ∀ (c : Nat) (k n : Int), (∀ j, k ≤ j → j < k + c → cd' (j + d) = cd j) → sWF cd c k n → sWF cd' c (k + d) n := by
  intro c
  induction c with
  | zero => intro k n _ h; exact h
  | succ c ih =>
    intro k n hc hw
    have e := hc k (Int.le_refl _) (by omega)
    have hc' : ∀ j, k + 1 ≤ j → j < k + 1 + c → cd' (j + d) = cd j := fun j h1 h2 => hc j (by omega) (by omega)
    have ek : k + d + 1 = (k + 1) + d := by omega
    unfold sWF at hw ⊢
    rw [e, ek]
    obtain ⟨h0, hw⟩ := hw
    refine ⟨h0, ?_⟩
    rcases hw with ⟨h, g0, g1, g2, g3, w⟩ | ⟨h, h1, w⟩ | ⟨h, h2, h3, w⟩
    · exact Or.inl ⟨h, g0, g1, g2, g3, ih _ _ hc' w⟩
    · exact Or.inr (Or.inl ⟨h, h1, ih _ _ hc' w⟩)
    · exact Or.inr (Or.inr ⟨h, h2, h3, ih _ _ hc' w⟩)
theorem opM_lt {a : Int} : opM a < 18 := by
  unfold opM
  cases hf : opL.find? (fun q => q.1 == a) with
  | none => decide
  | some q => exact (by decide : ∀ q ∈ opL, q.2 < 18) q (List.mem_of_find?_eq_some hf)
theorem sWF_op {cd : Int → Nat × Int} : ∀ (c : Nat) (k n : Int), sWF cd c k n → ∀ j, k ≤ j → j < k + c → (cd j).1 ≤ 16 := by
  intro c
  induction c with
  | zero => intro k n _ j h1 h2; omega
  | succ c ih =>
    intro k n hw j h1 h2
    unfold sWF at hw
    obtain ⟨-, hw⟩ := hw
    by_cases e : j = k
    · subst e
      rcases hw with ⟨h, -⟩ | ⟨h, -⟩ | ⟨-, h, -⟩ <;> omega
    · rcases hw with ⟨h, g0, g1, g2, g3, w⟩ | ⟨h, h1, w⟩ | ⟨h, h2, h3, w⟩ <;> exact ih _ _ w j (by omega) (by omega)
/-- what the reference is told is told well -/
theorem wM_okL {m : AM} (hI : IM m) {b l : Int} (hb : 0 ≤ b ∧ b ≤ 5) (h : LK m b ((12 * b) + l)) : (wM m).okL b l := by
  obtain ⟨⟨a1, a2, a3⟩, w1, w2, t1⟩ := h
  have r95 := hI.a 95 0 160 (by decide) ((12 * b) + l).toNat
  have r94 := hI.a 94 0 13 (by decide) ((12 * b) + l).toNat
  have e : ∀ j : Int, cdX m (j + 170 * b) = (wM m).cd b j := fun j => by rw [Int.add_comm]; rfl
  have f1 : mi m 95 ((12 * b) + l).toNat < mi m 96 ((12 * b) + l).toNat → sWF ((wM m).cd b) (mi m 96 ((12 * b) + l).toNat - mi m 95 ((12 * b) + l).toNat).toNat (mi m 95 ((12 * b) + l).toNat) 0 := fun q => by
    have := w1 q
    rw [Int.add_comm (170 * b)] at this
    exact sWF_cg _ _ _ (fun j _ _ => e j) this
  have f2 : sWF ((wM m).cd b) (mi m 97 ((12 * b) + l).toNat - mi m 96 ((12 * b) + l).toNat).toNat (mi m 96 ((12 * b) + l).toNat) 0 := by
    rw [Int.add_comm (170 * b)] at w2
    exact sWF_cg _ _ _ (fun j _ _ => e j) w2
  refine ⟨⟨r95.1, a1, a2, a3⟩, f1, f2, ⟨r94.1, r94.2, fun q => (t1 q).1⟩, fun j h1 h2 => ?_⟩
  have hv := hI.a 99 0 99999 (by decide) ((170 * b) + j).toNat
  refine ⟨?_, hv.1, by show mi m 99 ((170 * b) + j).toNat < 2 ^ 20; omega⟩
  have q : ((wM m).cd b j).1 ≤ 16 := by
    by_cases c : j < mi m 96 ((12 * b) + l).toNat
    · exact sWF_op _ _ _ (f1 (by have h1' : mi m 95 ((12 * b) + l).toNat ≤ j := h1; omega)) j h1 (by have h1' : mi m 95 ((12 * b) + l).toNat ≤ j := h1; omega)
    · have h2' : j < mi m 97 ((12 * b) + l).toNat := h2
      exact sWF_op _ _ _ f2 j (by omega) (by omega)
  omega
/-- the slots' bits are 2 to 20 -/
def HB (m : AM) : Prop := ∀ b r : Int, 0 ≤ b → b < mi m 86 1 → 0 ≤ r → r ≤ 7 → 2 ≤ mi m 88 ((8 * b) + r).toNat ∧ mi m 88 ((8 * b) + r).toNat ≤ 20
theorem wM_ok {m : AM} (h : RI m) (hB : HB m) : (wM m).ok := by
  have hI := h.i
  have h1 := hI.s 86 1 0 6 (by decide)
  refine ⟨h1, fun b h0 hb => ?_⟩
  have hb' : b < mi m 86 1 := hb
  refine ⟨hI.a 91 0 12 (by decide) b.toNat, fun l l0 l1 => wM_okL hI (by omega) (h.2.2.2 b l h0 hb l0 l1), fun i i0 i1 => ?_, fun r r0 r1 => ?_⟩
  · have q := hI.a 89 (-1) 53 (by decide) (4 * b + i).toNat
    exact ⟨q.1, q.2, fun z => h.1.1.2.2.2.2.2.2.2.2 _ z⟩
  · have q := hB b r h0 hb r0 r1
    have z := most_rng m q.1 q.2
    exact z
theorem inM_zw {M : AM} {C : ZC} {b i : Int} (hok : (wM M).okB b) (hR : RT M) (hC : CM M C) (hi : 0 ≤ i ∧ i ≤ 3) : inM M b i = zwIn (wM M) C b i := by
  have hw := hok.2.2.1 i hi.1 hi.2
  have h110 := hR.1.2.2.1 (4 * (mi M 89 (4 * b + i).toNat / 10) + mi M 89 (4 * b + i).toNat % 10).toNat
  have hw2 : -1 ≤ mi M 89 (4 * b + i).toNat ∧ mi M 89 (4 * b + i).toNat ≤ 53 ∧ (0 ≤ mi M 89 (4 * b + i).toNat → mi M 89 (4 * b + i).toNat % 10 ≤ 3) := hw
  unfold inM zwIn
  show (if mi M 89 (4 * b + i).toNat < 0 then (0, 0) else _) = if mi M 89 (4 * b + i).toNat < 0 then (0, 0) else _
  by_cases c1 : mi M 89 (4 * b + i).toNat < 0
  · rw [if_pos c1, if_pos c1]
  · rw [if_neg c1, if_neg c1]
    have e1 : mi M 110 (4 * (mi M 89 (4 * b + i).toNat / 10) + mi M 89 (4 * b + i).toNat % 10).toNat = C.fa (mi M 89 (4 * b + i).toNat / 10).toNat := by
      rw [← hC.2.1 (mi M 89 (4 * b + i).toNat / 10).toNat (mi M 89 (4 * b + i).toNat % 10).toNat (by omega) (by omega)]
      congr 1
      omega
    have e2 : mi M 109 (4 * (mi M 89 (4 * b + i).toNat / 10) + mi M 89 (4 * b + i).toNat % 10).toNat = C.po (4 * (mi M 89 (4 * b + i).toNat / 10) + mi M 89 (4 * b + i).toNat % 10).toNat := hC.1 _ (by omega)
    rw [e1] at h110
    rw [e1, e2]
    by_cases c2 : C.fa (mi M 89 (4 * b + i).toNat / 10).toNat > 0
    · have c3 : ¬ C.fa ((wM M).wi b i / 10).toNat = 0 := by
        show ¬ C.fa (mi M 89 (4 * b + i).toNat / 10).toNat = 0
        omega
      rw [if_pos c2, if_neg c3]
      rfl
    · have c3 : C.fa ((wM M).wi b i / 10).toNat = 0 := by
        show C.fa (mi M 89 (4 * b + i).toNat / 10).toNat = 0
        omega
      rw [if_neg c2, if_pos c3]
      rfl
theorem rdM_zw {M : AM} {C : ZC} {S : ZS} {b : Int} (hok : (wM M).okB b) (hb : 0 ≤ b ∧ b ≤ 5) (hR : RT M) (hC : CM M C) (hJ : JM M S) (w : Nat) (v : Int) (h1 : w = 1 → 0 ≤ v ∧ v ≤ 7) (h2 : w = 2 → 0 ≤ v ∧ v ≤ 3) (h3 : w = 3 → 0 ≤ v ∧ v ≤ 2) : rdM M b w v = zwRd (wM M) C S.sl (mi M 86 40) b w v := by
  unfold rdM zwRd
  by_cases w0 : w = 0
  · rw [if_pos w0, if_pos w0]
  · rw [if_neg w0, if_neg w0]
    by_cases w1 : w = 1
    · have := h1 w1
      rw [if_pos w1, if_pos w1, hJ.1 _ (by omega)]
    · rw [if_neg w1, if_neg w1]
      by_cases w2 : w = 2
      · rw [if_pos w2, if_pos w2, inM_zw hok hR hC (h2 w2)]
      · rw [if_neg w2, if_neg w2]
        by_cases w3 : w = 3
        · have := h3 w3
          rw [if_pos w3, if_pos w3, hC.2.2.1 _ (by omega)]
        · rw [if_neg w3, if_neg w3, hC.2.2.2]
theorem eM_zw {M : AM} {C : ZC} {S : ZS} {b fr to : Int} (hok : (wM M).okB b) (hb : 0 ≤ b ∧ b ≤ 5) (hR : RT M) (hC : CM M C) (hJ : JM M S) (hw : sWF ((wM M).cd b) (to - fr).toNat fr 0) : eM M b fr to = zwE (wM M) C S.sl (mi M 86 40) b fr to := by
  unfold eM zwE
  have q := eV_cg (cd := (wM M).cd b) (cd' := cdX M) (rd := zwRd (wM M) C S.sl (mi M 86 40) b) (rd' := rdM M b) (d := 170 * b) (c := (to - fr).toNat) (k := fr) (fun j _ _ => by rw [Int.add_comm]; rfl) (fun w v _ _ h1 h2 h3 => rdM_zw hok hb hR hC hJ w v h1 h2 h3) hw
  rw [← q, Int.add_comm]
theorem JM.put {M : AM} {S : ZS} (h : JM M S) {b l v : Int} (hb : 0 ≤ b ∧ b ≤ 5) (hfa : S.fa b.toNat = 0) (hv : -1000000 ≤ v ∧ v ≤ 1000000) (ht : 0 ≤ mi M 94 ((12 * b) + l).toNat ∧ mi M 94 ((12 * b) + l).toNat ≤ 13) : JM (putX M b ((12 * b) + l) v) (zwPut (wM M) b l v S) := by
  obtain ⟨h1, h2, h3, h4, h5, h6, h7, h8⟩ := h
  have zv : (zi v).toInt = v := zi_toInt (by omega) (by omega)
  unfold putX zwPut
  show JM _ (if mi M 94 ((12 * b) + l).toNat ≥ 10 then _ else _)
  by_cases c : mi M 94 ((12 * b) + l).toNat ≥ 10
  · rw [if_pos c, if_pos c]
    have z0 : (zi 0).toInt = 0 := by decide
    have e : ∀ o j, o ≠ 107 → o ≠ 108 → mi (si (si M 107 (((4 * b) + mi M 94 ((12 * b) + l).toNat) - 10).toNat v) 108 (((4 * b) + mi M 94 ((12 * b) + l).toNat) - 10).toNat 0) o j = mi M o j := fun o j a1 a2 => by
      rw [mi_si_ne _ _ (fun q => a2 q.1), mi_si_ne _ _ (fun q => a1 q.1)]
    refine ⟨fun j hj => ?_, fun j hj => ?_, fun b' p hb' hp => ?_, fun j hj => ?_, fun j hj => ?_, fun j hj => ?_, ?_, fun q => ?_⟩
    · rw [e _ _ (by decide) (by decide)]; exact h1 j hj
    · rw [mi_si_ne _ _ (by omega)]
      have := zu_row (k := (((4 * b) + mi M 94 ((12 * b) + l).toNat) - 10).toNat) (v := v) h2 j hj
      rw [zv] at this
      exact this
    · rw [mi_si, z0]
      by_cases q : 4 * b' + p = (((4 * b) + mi M 94 ((12 * b) + l).toNat) - 10).toNat
      · rw [if_pos ⟨rfl, q⟩]
        have eb : b' = b.toNat := by omega
        show 0 = S.fa b'
        rw [eb, hfa]
      · rw [if_neg (fun z => q z.2), mi_si_ne _ _ (by omega)]
        exact h3 b' p hb' hp
    · rw [e _ _ (by decide) (by decide)]; exact h4 j hj
    · rw [e _ _ (by decide) (by decide)]; exact h5 j hj
    · rw [e _ _ (by decide) (by decide)]; exact h6 j hj
    · rw [e _ _ (by decide) (by decide)]; exact h7
    · rw [e _ _ (by decide) (by decide), e _ _ (by decide) (by decide), e _ _ (by decide) (by decide)]; exact h8 q
  · rw [if_neg c, if_neg c]
    have e : ∀ o j, o ≠ 106 → mi (si M 106 ((8 * b) + mi M 94 ((12 * b) + l).toNat).toNat v) o j = mi M o j := fun o j a1 => mi_si_ne _ _ (fun q => a1 q.1)
    refine ⟨fun j hj => ?_, fun j hj => ?_, fun b' p hb' hp => ?_, fun j hj => ?_, fun j hj => ?_, fun j hj => ?_, ?_, fun q => ?_⟩
    · have := zu_row (k := ((8 * b) + mi M 94 ((12 * b) + l).toNat).toNat) (v := v) h1 j hj
      rw [zv] at this
      exact this
    · rw [e _ _ (by decide)]; exact h2 j hj
    · rw [e _ _ (by decide)]; exact h3 b' p hb' hp
    · rw [e _ _ (by decide)]; exact h4 j hj
    · rw [e _ _ (by decide)]; exact h5 j hj
    · rw [e _ _ (by decide)]; exact h6 j hj
    · rw [e _ _ (by decide)]; exact h7
    · rw [e _ _ (by decide), e _ _ (by decide), e _ _ (by decide)]; exact h8 q
theorem mostM_zw (M : AM) (b l : Int) : mostX M b ((12 * b) + l) = zwMost (wM M) b l := rfl
theorem landM_zw {M : AM} {S : ZS} {b l v : Int} (hL : LK M b ((12 * b) + l)) (hI : IM M) (h : JM M S) (hb : 0 ≤ b ∧ b ≤ 5) (hfa : S.fa b.toNat = 0) : (landM M b l ((12 * b) + l) v).1 = (zwLand (wM M) b l v S).1 ∧ JM (landM M b l ((12 * b) + l) v).2 (zwLand (wM M) b l v S).2 := by
  have hm := mostX_rng hL
  have ht := hI.a 94 0 13 (by decide) ((12 * b) + l).toNat
  have hw : watX M b l ((12 * b) + l) = 0 ∨ watX M b l ((12 * b) + l) = 1 := by
    unfold watX
    split
    · exact Or.inr rfl
    · exact Or.inl rfl
  have ew : (wM M).wa b l = watX M b l ((12 * b) + l) := if_pos hb.1
  unfold landM zwLand
  rw [← mostM_zw, ew]
  by_cases c1 : v > mostX M b ((12 * b) + l) ∨ v < -mostX M b ((12 * b) + l) - 1
  · rw [if_pos c1, if_pos c1]
    by_cases c2 : watX M b l ((12 * b) + l) = 1
    · have c3 : watX M b l ((12 * b) + l) ≠ 0 := by omega
      rw [if_pos c2, if_pos c3]
      exact ⟨rfl, JM.put (S := zwMis b l S) h hb hfa (by split <;> omega) ht⟩
    · have c3 : ¬ watX M b l ((12 * b) + l) ≠ 0 := by omega
      rw [if_neg c2, if_neg c3]
      exact ⟨rfl, h⟩
  · rw [if_neg c1, if_neg c1]
    exact ⟨rfl, h.put hb hfa (by omega) ht⟩
theorem zwMis_fa (b l : Int) (S : ZS) : (zwMis b l S).fa = S.fa := rfl
theorem zwPut_fa (W : ZW) (b l v : Int) (S : ZS) : (zwPut W b l v S).fa = S.fa := by unfold zwPut; split <;> rfl
theorem zwLand_fa (W : ZW) (b l v : Int) (S : ZS) : (zwLand W b l v S).2.fa = S.fa := by
  unfold zwLand
  split
  · split
    · exact zwPut_fa _ _ _ _ _
    · rfl
  · exact zwPut_fa _ _ _ _ _
theorem zwB_fa (W : ZW) (C : ZC) (e b l : Int) (S : ZS) : (zwB W C e b l S).2.fa = S.fa := by
  unfold zwB
  split
  · rfl
  · exact zwLand_fa _ _ _ _ _
theorem zwLn_fa (W : ZW) (C : ZC) (e b l : Int) (S : ZS) : (zwLn W C e b l S).2.fa = S.fa := by
  unfold zwLn
  split
  · split
    · rfl
    · split
      · rfl
      · exact zwB_fa _ _ _ _ _ _
  · exact zwB_fa _ _ _ _ _ _
theorem doB_zw {M : AM} {C : ZC} {S : ZS} {b l : Int} (hok : (wM M).okB b) (hl : 0 ≤ l ∧ l < (wM M).nl b) (hL : LK M b ((12 * b) + l)) (hR : RT M) (hC : CM M C) (h : JM M S) (hb : 0 ≤ b ∧ b ≤ 5) (hfa : S.fa b.toNat = 0) : (doB M b l ((12 * b) + l)).1 = (zwB (wM M) C (mi M 86 40) b l S).1 ∧ JM (doB M b l ((12 * b) + l)).2 (zwB (wM M) C (mi M 86 40) b l S).2 := by
  have hLL := hok.2.1 l hl.1 hl.2
  have e : eM M b (mi M 96 ((12 * b) + l).toNat) (mi M 97 ((12 * b) + l).toNat) = zwE (wM M) C S.sl (mi M 86 40) b ((wM M).at3 b l).2.1 ((wM M).at3 b l).2.2 := eM_zw (fr := mi M 96 ((12 * b) + l).toNat) (to := mi M 97 ((12 * b) + l).toNat) hok hb hR hC h hLL.2.2.1
  have r := zwE_r (wM M) C S.sl (mi M 86 40) b ((wM M).at3 b l).2.1 ((wM M).at3 b l).2.2
  unfold doB zwB
  rw [e]
  by_cases c : (zwE (wM M) C S.sl (mi M 86 40) b ((wM M).at3 b l).2.1 ((wM M).at3 b l).2.2).1 ≠ 0
  · have c2 : (zwE (wM M) C S.sl (mi M 86 40) b ((wM M).at3 b l).2.1 ((wM M).at3 b l).2.2).1 > 0 := by omega
    rw [if_pos c2, if_pos c]
    exact ⟨rfl, h⟩
  · have c2 : ¬ (zwE (wM M) C S.sl (mi M 86 40) b ((wM M).at3 b l).2.1 ((wM M).at3 b l).2.2).1 > 0 := by omega
    rw [if_neg c2, if_neg c]
    exact landM_zw hL hR.1.2.1 h hb hfa
theorem doM_zw {M : AM} {C : ZC} {S : ZS} {b l : Int} (hok : (wM M).okB b) (hl : 0 ≤ l ∧ l < (wM M).nl b) (hL : LK M b ((12 * b) + l)) (hR : RT M) (hC : CM M C) (h : JM M S) (hb : 0 ≤ b ∧ b ≤ 5) (hfa : S.fa b.toNat = 0) : (doM M b l).1 = (zwLn (wM M) C (mi M 86 40) b l S).1 ∧ JM (doM M b l).2 (zwLn (wM M) C (mi M 86 40) b l S).2 := by
  have hLL := hok.2.1 l hl.1 hl.2
  have hB := doB_zw hok hl hL hR hC h hb hfa
  unfold doM zwLn
  by_cases c : mi M 95 ((12 * b) + l).toNat < mi M 96 ((12 * b) + l).toNat
  · have c0 : ((wM M).at3 b l).1 < ((wM M).at3 b l).2.1 := c
    have c' : mi M 96 ((12 * b) + l).toNat > mi M 95 ((12 * b) + l).toNat := c
    rw [if_pos c', if_pos c0]
    have e : eM M b (mi M 95 ((12 * b) + l).toNat) (mi M 96 ((12 * b) + l).toNat) = zwE (wM M) C S.sl (mi M 86 40) b ((wM M).at3 b l).1 ((wM M).at3 b l).2.1 := eM_zw (fr := mi M 95 ((12 * b) + l).toNat) (to := mi M 96 ((12 * b) + l).toNat) hok hb hR hC h (hLL.2.1 c)
    have r := zwE_r (wM M) C S.sl (mi M 86 40) b ((wM M).at3 b l).1 ((wM M).at3 b l).2.1
    rw [e]
    by_cases c1 : (zwE (wM M) C S.sl (mi M 86 40) b ((wM M).at3 b l).1 ((wM M).at3 b l).2.1).1 ≠ 0
    · have c2 : (zwE (wM M) C S.sl (mi M 86 40) b ((wM M).at3 b l).1 ((wM M).at3 b l).2.1).1 > 0 := by omega
      rw [if_pos c2, if_pos c1]
      exact ⟨rfl, h⟩
    · have c2 : ¬ (zwE (wM M) C S.sl (mi M 86 40) b ((wM M).at3 b l).1 ((wM M).at3 b l).2.1).1 > 0 := by omega
      rw [if_neg c2, if_neg c1]
      by_cases c3 : (zwE (wM M) C S.sl (mi M 86 40) b ((wM M).at3 b l).1 ((wM M).at3 b l).2.1).2 = 0
      · rw [if_pos c3, if_pos c3]
        exact ⟨rfl, h⟩
      · rw [if_neg c3, if_neg c3]
        exact hB
  · have c0 : ¬ ((wM M).at3 b l).1 < ((wM M).at3 b l).2.1 := c
    have c' : ¬ mi M 96 ((12 * b) + l).toNat > mi M 95 ((12 * b) + l).toNat := c
    rw [if_neg c', if_neg c0]
    exact hB

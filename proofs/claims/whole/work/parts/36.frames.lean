/-- what a run of the reference leaves as it was: all but its own rows, the pile, and a few single numbers -/
def FR (m N : AM) : Prop := N.2.2 = m.2.2 ∧ (∀ o, ¬ scr o → N.2.1 o = m.2.1 o) ∧ ∀ o j : Nat, ¬ (106 ≤ o ∧ o ≤ 114) → ¬ (o = 86 ∧ 35 ≤ j ∧ j ≤ 40) → N.1 o j = m.1 o j
theorem FR.rf (m : AM) : FR m m := ⟨rfl, fun _ _ => rfl, fun _ _ _ _ => rfl⟩
theorem FR.trans {m M N : AM} (h : FR m M) (h2 : FR M N) : FR m N := ⟨h2.1.trans h.1, fun o ho => (h2.2.1 o ho).trans (h.2.1 o ho), fun o j a b => (h2.2.2 o j a b).trans (h.2.2 o j a b)⟩
theorem FR.same {m N : AM} (h : SameP m N) : FR m N := ⟨h.2.1, h.2.2, fun o j _ _ => by rw [h.1]⟩
theorem FR.cell {m N : AM} (h : FR m N) {o j : Nat} (h1 : ¬ (106 ≤ o ∧ o ≤ 114)) (h2 : ¬ (o = 86 ∧ 35 ≤ j ∧ j ≤ 40)) : mi N o j = mi m o j := by
  show (zi (N.1 o j)).toInt = (zi (m.1 o j)).toInt
  rw [h.2.2 o j h1 h2]
theorem FR.one {m N : AM} (h : FR m N) {o k : Nat} (ho : (106 ≤ o ∧ o ≤ 114) ∨ (o = 86 ∧ 35 ≤ k ∧ k ≤ 40)) (v : Int) : FR m (si N o k v) := ⟨h.1, h.2.1, fun p j h1 h2 => by
  show (if p = o ∧ j = k then v else N.1 p j) = m.1 p j
  rw [if_neg (by rintro ⟨rfl, rfl⟩; omega)]
  exact h.2.2 p j h1 h2⟩
theorem FR.stretch {m N : AM} (h : FR m N) {o : Nat} (ho : 106 ≤ o ∧ o ≤ 114) (a e v : Int) : FR m (fil N o a e v) := ⟨h.1, h.2.1, fun p j h1 h2 => by
  show (if p = o ∧ a ≤ (j : Int) ∧ (j : Int) < e then v else N.1 p j) = m.1 p j
  rw [if_neg (by rintro ⟨rfl, -⟩; omega)]
  exact h.2.2 p j h1 h2⟩
theorem FR.copy {m N : AM} (h : FR m N) {o : Nat} (ho : 106 ≤ o ∧ o ≤ 114) (o0 : Nat) (e : Int) : FR m (cpr N o o0 e) := ⟨h.1, h.2.1, fun p j h1 h2 => by
  show (if p = o ∧ (j : Int) < e then mi N o0 j else N.1 p j) = m.1 p j
  rw [if_neg (by rintro ⟨rfl, -⟩; omega)]
  exact h.2.2 p j h1 h2⟩
theorem FR.put {m N : AM} (h : FR m N) (b k v : Int) : FR m (putX N b k v) := by
  unfold putX
  split
  · exact (h.one (by omega) _).one (by omega) _
  · exact h.one (by omega) _
theorem FR.land {m N : AM} (h : FR m N) (b l k v : Int) : FR m (landM N b l k v).2 := by
  unfold landM
  split
  · split
    · exact h.put _ _ _
    · exact h
  · exact h.put _ _ _
theorem FR.second {m N : AM} (h : FR m N) (b l k : Int) : FR m (doB N b l k).2 := by
  unfold doB
  split
  · exact h
  · exact h.land _ _ _ _
theorem FR.line {m N : AM} (h : FR m N) (b l : Int) : FR m (doM N b l).2 := by
  unfold doM
  split
  · split
    · exact h
    · split
      · exact h
      · exact h.second _ _ _
  · exact h.second _ _ _
theorem FR.cg {m N : AM} (h : FR m N) (b p : Int) : FR m (cgM N b p) := by
  unfold cgM
  split
  · exact (h.one (by omega) _).one (by omega) _
  · exact h.one (by omega) _
theorem FR.kill {m N : AM} (h : FR m N) (b y : Int) : FR m (FX12_kill N b y) := by
  unfold FX12_kill
  exact ((h.one (by omega) _).stretch (by omega) _ _ _).stretch (by omega) _ _ _
theorem FR.tail {m N : AM} (h : FR m N) (b p i : Int) : FR m (FT_tickOf N b p i) := by
  have a := (h.kill b p).one (o := 112) (k := b.toNat) (by omega) (mi (FX12_kill N b p) 86 39)
  unfold FT_tickOf
  split
  · split
    · exact (((a.one (o := 86) (k := 35) (by omega) _).one (o := 86) (k := 36) (by omega) _).one (o := 86) (k := 37) (by omega) _).one (o := 86) (k := 38) (by omega) _
    · exact a
  · exact h
theorem FR.lines {m : AM} {b : Int} : ∀ (c : Nat) (l p i : Int) (N : AM), FR m N → FR m (tkL b c l p i N).2.2 := by
  intro c
  induction c with
  | zero => intro l p i N h; exact h
  | succ c ih =>
    intro l p i N h
    by_cases hc2 : mi N 92 ((12 * b) + l).toNat = (if p > 0 then 1 else 0)
    · have e : tkL b (c + 1) l p i N = tkL b c (l + 1) (doM (cgM N b p) b l).1 l (doM (cgM N b p) b l).2 := if_pos hc2
      rw [e]
      exact ih (l + 1) (doM (cgM N b p) b l).1 l (doM (cgM N b p) b l).2 ((h.cg b p).line b l)
    · have e : tkL b (c + 1) l p i N = tkL b c (l + 1) p i N := if_neg hc2
      rw [e]
      exact ih (l + 1) p i N h
theorem FR.tick (m : AM) (b : Int) : FR m (tkM m b) := (FR.lines _ _ _ _ _ (FR.rf m)).tail _ _ _
theorem FR.boxK {m N : AM} (h : FR m N) (b : Int) : FR m (bxK N b) := by
  unfold bxK
  split
  · exact h.kill _ _
  · exact h
theorem FR.boxT {m N : AM} (h : FR m N) (b : Int) : FR m (bxT N b) := by
  unfold bxT
  split
  · exact h.boxK b
  · exact (h.boxK b).trans (FR.tick _ _)
theorem FR.boxes {m : AM} : ∀ (c : Nat) (b : Int) (N : AM), FR m N → FR m (taL c b N) := by
  intro c
  induction c with
  | zero => intro b N h; exact h
  | succ c ih => intro b N h; exact ih _ _ (h.boxT b)
theorem FR.all {m N : AM} (h : FR m N) : FR m (taM N) := by
  unfold taM
  refine FR.boxes _ _ _ ?_
  unfold cpA
  exact (h.copy (by omega) _ _).copy (by omega) _ _
theorem FR.felts {m : AM} (f : Int) : ∀ (c : Nat) (k : Int) (N : AM), FR m N → FR m (feL f c k N) := by
  intro c
  induction c with
  | zero => intro k N h; exact h
  | succ c ih => intro k N h; exact ih _ _ (h.one (by omega) _)
theorem FR.loop {m : AM} (f : Int) : ∀ (c : Nat) (N : AM), FR m N → FR m (roL f c N) := by
  intro c
  induction c with
  | zero => intro N h; exact h
  | succ c ih => intro N h; exact ih _ (((h.felts f 3 0).all).one (by omega) _)
theorem FR.begins {m N : AM} (h : FR m N) : FR m (FX12_begin N) := by
  unfold FX12_begin
  exact ((((((h.stretch (by omega) _ _ _).stretch (by omega) _ _ _).stretch (by omega) _ _ _).stretch (by omega) _ _ _).stretch (by omega) _ _ _).stretch (by omega) _ _ _).one (by omega) _
theorem FR.run {m N : AM} (h : FR m N) (f n : Int) : FR m (roM N f n) := FR.loop f _ _ ((h.begins).one (by omega) _)
theorem FR.fr {m N : AM} (h : FR m N) : Fr m N := fun p hp i => h.cell ((by decide : ∀ p ∈ ([88, 91, 92, 93, 94, 95, 96, 97, 98, 99] : List Nat), ¬ (106 ≤ p ∧ p ≤ 114)) p hp) (fun q => (by decide : ∀ p ∈ ([88, 91, 92, 93, 94, 95, 96, 97, 98, 99] : List Nat), p ≠ 86) p hp q.1)
/-! who is dead, since when; the first fault -/
def RD (m : AM) : Prop := (∀ j : Nat, 0 ≤ mi m 111 j ∧ mi m 111 j ≤ 1) ∧ (∀ j : Nat, -1 ≤ mi m 112 j ∧ mi m 112 j ≤ 200) ∧ ∀ k : Nat, 35 ≤ k → k ≤ 38 → -1 ≤ mi m 86 k ∧ mi m 86 k ≤ 200
theorem RD.keeps {m N : AM} (h : RD m) (h1 : ∀ j, mi N 111 j = mi m 111 j) (h2 : ∀ j, mi N 112 j = mi m 112 j) (h3 : ∀ k : Nat, 35 ≤ k → k ≤ 38 → mi N 86 k = mi m 86 k) : RD N :=
  ⟨fun j => by rw [h1]; exact h.1 j, fun j => by rw [h2]; exact h.2.1 j, fun k a b => by rw [h3 k a b]; exact h.2.2 k a b⟩
theorem RD.of {m N : AM} (h : RD m) (hs : SameP m N) : RD N := h.keeps (fun j => hs.mi 111 j) (fun j => hs.mi 112 j) (fun k _ _ => hs.mi 86 k)
theorem RD.other {m : AM} (h : RD m) {o k : Nat} (h1 : o ≠ 111) (h2 : o ≠ 112) (h3 : o = 86 → ¬ (35 ≤ k ∧ k ≤ 38)) (v : Int) : RD (si m o k v) :=
  h.keeps (fun j => mi_si_ne m v (fun q => h1 q.1.symm)) (fun j => mi_si_ne m v (fun q => h2 q.1.symm)) (fun k a b => mi_si_ne m v (fun q => h3 q.1.symm (by rw [← q.2]; exact ⟨a, b⟩)))
theorem RD.put {m : AM} (h : RD m) (b k v : Int) : RD (putX m b k v) := by
  unfold putX
  split
  · exact (h.other (by decide) (by decide) (fun q => absurd q (by decide)) _).other (by decide) (by decide) (fun q => absurd q (by decide)) _
  · exact h.other (by decide) (by decide) (fun q => absurd q (by decide)) _
theorem RD.land {m : AM} (h : RD m) (b l k v : Int) : RD (landM m b l k v).2 := by
  unfold landM
  split
  · split
    · exact h.put _ _ _
    · exact h
  · exact h.put _ _ _
theorem RD.second {m : AM} (h : RD m) (b l k : Int) : RD (doB m b l k).2 := by
  unfold doB
  split
  · exact h
  · exact h.land _ _ _ _
theorem RD.line {m : AM} (h : RD m) (b l : Int) : RD (doM m b l).2 := by
  unfold doM
  split
  · split
    · exact h
    · split
      · exact h
      · exact h.second _ _ _
  · exact h.second _ _ _
theorem RD.cg {m : AM} (h : RD m) (b p : Int) : RD (cgM m b p) := by
  have a := h.other (o := 86) (k := 40) (by decide) (by decide) (fun _ => by omega) p
  unfold cgM
  split
  · exact a.other (by decide) (by decide) (fun q => absurd q (by decide)) _
  · exact a
theorem RD.kill {m : AM} (h : RD m) (b y : Int) : RD (FX12_kill m b y) := by
  refine ⟨fun j => ?_, fun j => ?_, fun k a c => ?_⟩
  · unfold FX12_kill
    rw [mi_fil, if_neg (fun q => absurd q.1 (by decide)), mi_fil, if_neg (fun q => absurd q.1 (by decide))]
    by_cases e : j = b.toNat
    · rw [e, mi_si_same _ _ _ (by decide) (by decide)]
      decide
    · rw [mi_si_ne _ _ (fun q => e q.2)]
      exact h.1 j
  · rw [kill_mi m b y (by decide) (by decide) (by decide)]
    exact h.2.1 j
  · rw [kill_mi m b y (by decide) (by decide) (by decide)]
    exact h.2.2 k a c
theorem RD.first {m : AM} (h : RD m) (k : Nat) {v : Int} (h1 : -1 ≤ v) (h2 : v ≤ 200) : RD (si m 86 k v) := by
  refine ⟨fun j => ?_, fun j => ?_, fun i a c => ?_⟩
  · rw [mi_si_ne _ _ (fun q => absurd q.1 (by decide))]; exact h.1 j
  · rw [mi_si_ne _ _ (fun q => absurd q.1 (by decide))]; exact h.2.1 j
  · by_cases e : i = k
    · rw [e, mi_si_same _ _ _ (by omega) (by omega)]; exact ⟨h1, h2⟩
    · rw [mi_si_ne _ _ (fun q => e q.2)]; exact h.2.2 i a c
theorem RD.deadAt {m : AM} (h : RD m) (k : Nat) {v : Int} (h1 : -1 ≤ v) (h2 : v ≤ 200) : RD (si m 112 k v) := by
  refine ⟨fun j => ?_, fun j => ?_, fun i a c => ?_⟩
  · rw [mi_si_ne _ _ (fun q => absurd q.1 (by decide))]; exact h.1 j
  · by_cases e : j = k
    · rw [e, mi_si_same _ _ _ (by omega) (by omega)]; exact ⟨h1, h2⟩
    · rw [mi_si_ne _ _ (fun q => e q.2)]; exact h.2.1 j
  · rw [mi_si_ne _ _ (fun q => absurd q.1 (by decide))]; exact h.2.2 i a c
theorem RD.tail {m : AM} (h : RD m) (h39 : 0 ≤ mi m 86 39 ∧ mi m 86 39 ≤ 200) {b p i : Int} (hb0 : 0 ≤ b) (hb5 : b ≤ 5) (hp0 : 0 ≤ p) (hp4 : p ≤ 4) (hi0 : 0 ≤ i) (hi1 : i ≤ 11) : RD (FT_tickOf m b p i) := by
  have e := kill_mi m b p (o := 86) (by decide) (by decide) (by decide) 39
  have a := (h.kill b p).deadAt b.toNat (v := mi (FX12_kill m b p) 86 39) (by omega) (by omega)
  have e2 : mi (si (FX12_kill m b p) 112 b.toNat (mi (FX12_kill m b p) 86 39)) 86 39 = mi m 86 39 := (mi_si_ne _ _ (fun q => absurd q.1 (by decide))).trans e
  unfold FT_tickOf
  split
  · split
    · exact (((a.first 35 (by omega) (by omega)).first 36 (by omega) (by omega)).first 37 (by omega) (by omega)).first 38 (by omega) (by omega)
    · exact a
  · exact h
theorem RD.lines {b : Int} (hb0 : 0 ≤ b) (hb5 : b ≤ 5) : ∀ (c : Nat) (l p i : Int) (N : AM), RD N → RD (tkL b c l p i N).2.2 := by
  intro c
  induction c with
  | zero => intro l p i N h; exact h
  | succ c ih =>
    intro l p i N h
    by_cases hc2 : mi N 92 ((12 * b) + l).toNat = (if p > 0 then 1 else 0)
    · have e : tkL b (c + 1) l p i N = tkL b c (l + 1) (doM (cgM N b p) b l).1 l (doM (cgM N b p) b l).2 := if_pos hc2
      rw [e]
      exact ih (l + 1) (doM (cgM N b p) b l).1 l (doM (cgM N b p) b l).2 ((h.cg b p).line b l)
    · have e : tkL b (c + 1) l p i N = tkL b c (l + 1) p i N := if_neg hc2
      rw [e]
      exact ih (l + 1) p i N h
theorem tkL_r (b : Int) : ∀ (c : Nat) (l p i : Int) (N : AM), 0 ≤ p → p ≤ 4 → 0 ≤ i → i ≤ 11 → 0 ≤ l → l + c ≤ 12 → (0 ≤ (tkL b c l p i N).1 ∧ (tkL b c l p i N).1 ≤ 4) ∧ 0 ≤ (tkL b c l p i N).2.1 ∧ (tkL b c l p i N).2.1 ≤ 11 := by
  intro c
  induction c with
  | zero => intro l p i N h0 h4 h1 h2 _ _; exact ⟨⟨h0, h4⟩, h1, h2⟩
  | succ c ih =>
    intro l p i N h0 h4 h1 h2 h5 h6
    have r := doM_r (cgM N b p) b l
    by_cases hc2 : mi N 92 ((12 * b) + l).toNat = (if p > 0 then 1 else 0)
    · have e : tkL b (c + 1) l p i N = tkL b c (l + 1) (doM (cgM N b p) b l).1 l (doM (cgM N b p) b l).2 := if_pos hc2
      rw [e]
      exact ih (l + 1) (doM (cgM N b p) b l).1 l (doM (cgM N b p) b l).2 r.1 r.2 h5 (by omega) (by omega) (by omega)
    · have e : tkL b (c + 1) l p i N = tkL b c (l + 1) p i N := if_neg hc2
      rw [e]
      exact ih (l + 1) p i N h0 h4 h1 h2 (by omega) (by omega)
theorem RD.tick {m : AM} (h : RD m) (hR : RT m) {b : Int} (hb0 : 0 ≤ b) (hb5 : b ≤ 5) : RD (tkM m b) := by
  have h91 := hR.1.2.1.a 91 0 12 (by decide) b.toNat
  have k := tkL_r b (mi m 91 b.toNat).toNat 0 0 0 m (by omega) (by omega) (by omega) (by omega) (by omega) (by omega)
  have q := Fq.lines (b := b) (mi m 91 b.toNat).toNat 0 0 0 m (Fq.rf m) 39 (by decide)
  have t := hR.1.2.2.2.2.2.2.1
  exact (RD.lines hb0 hb5 _ 0 0 0 m h).tail (by rw [q]; exact t) hb0 hb5 k.1.1 k.1.2 k.2.1 k.2.2
theorem RD.boxT {m : AM} {b : Int} (h : RD m) (hR : RT (bxK m b)) (hb0 : 0 ≤ b) (hb5 : b ≤ 5) : RD (bxT m b) := by
  have k : RD (bxK m b) := by
    unfold bxK
    split
    · exact h.kill _ _
    · exact h
  unfold bxT
  split
  · exact k
  · exact k.tick hR hb0 hb5
theorem RD.boxes {m : AM} (hf : 0 ≤ mi m 86 45 ∧ mi m 86 45 ≤ 10) (hLK : ∀ b j, 0 ≤ b → b < mi m 86 1 → 0 ≤ j → j < mi m 91 b.toNat → LK m b ((12 * b) + j)) : ∀ (c : Nat) (b : Int) (N : AM), Fr m N → Fq m N → RT N → b + c = mi m 86 1 → 0 ≤ b → RD N → RD (taL c b N) := by
  intro c
  induction c with
  | zero => intro b N _ _ _ _ _ h; exact h
  | succ c ih =>
    intro b N hfr hfq hRN hc hb0 h
    have hfN : 0 ≤ mi N 86 45 ∧ mi N 86 45 ≤ 10 := by rw [hfq 45 (by decide)]; exact hf
    have hb6 := hRN.1.2.1.s 86 1 0 6 (by decide)
    have hb1 := hfq 1 (by decide)
    have hT := bxT_keep hRN hfN (b := b) (fun j h0 h1 => hfr.prog (hLK b j hb0 (by omega) h0 (by rw [← hfr 91 (by decide)]; exact h1)))
    have hK := bxK_keep hRN hfN b
    exact ih (b + 1) (bxT N b) (hfr.trans hT.2.1) (hfq.trans hT.2.2) hT.1 (by omega) (by omega) (h.boxT hK.1 hb0 (by omega))
theorem RD.all {m : AM} (h : RD m) (hR : RT m) (hf : 0 ≤ mi m 86 45 ∧ mi m 86 45 ≤ 10) (hLK : ∀ b j, 0 ≤ b → b < mi m 86 1 → 0 ≤ j → j < mi m 91 b.toNat → LK m b ((12 * b) + j)) : RD (taM m) := by
  unfold taM
  refine RD.boxes (m := cpA m) (by rw [cpA_Fq m 45 (by decide)]; exact hf) (fun b j h0 h1 h2 h3 => (cpA_Fr m).prog (hLK b j h0 (by rw [← cpA_Fq m 1 (by decide)]; exact h1) h2 (by rw [← cpA_Fr m 91 (by decide)]; exact h3))) (mi m 86 1).toNat 0 (cpA m) (Fr.rf _) (Fq.rf _) hR.ahead ?_ (Int.le_refl 0) ?_
  · have := hR.1.2.1.s 86 1 0 6 (by decide)
    rw [cpA_Fq m 1 (by decide)]; omega
  · exact h.keeps (fun j => cpA_mi m (by decide) (by decide) j) (fun j => cpA_mi m (by decide) (by decide) j) (fun k _ _ => cpA_mi m (by decide) (by decide) k)
theorem roL_keep {m : AM} {f n : Int} (hn : n ≤ 200) (hf : 0 ≤ mi m 86 45 ∧ mi m 86 45 ≤ 10) (hLK : ∀ b j, 0 ≤ b → b < mi m 86 1 → 0 ≤ j → j < mi m 91 b.toNat → LK m b ((12 * b) + j)) : ∀ (c : Nat) (t : Int) (N : AM), FR m N → RT N → RD N → mi N 86 39 = t → t + c = n → 0 ≤ t → RT (roL f c N) ∧ RD (roL f c N) := by
  intro c
  induction c with
  | zero => intro t N _ hR hD _ _ _; exact ⟨hR, hD⟩
  | succ c ih =>
    intro t N hFR hR hD ht hc ht0
    have hF := feL_keep f 3 0 N hR
    have hFF : FR m (feL f 3 0 N) := hFR.felts f 3 0
    have hfF : 0 ≤ mi (feL f 3 0 N) 86 45 ∧ mi (feL f 3 0 N) 86 45 ≤ 10 := by rw [hFF.cell (by decide) (by decide)]; exact hf
    have hLF : ∀ b j, 0 ≤ b → b < mi (feL f 3 0 N) 86 1 → 0 ≤ j → j < mi (feL f 3 0 N) 91 b.toNat → LK (feL f 3 0 N) b ((12 * b) + j) := fun b j h0 h1 h2 h3 =>
      hFF.fr.prog (hLK b j h0 (by rw [← hFF.cell (by decide) (by decide)]; exact h1) h2 (by rw [← hFF.cell (by decide) (by omega)]; exact h3))
    have hA := hF.1.all hfF hLF
    have hDF : RD (feL f 3 0 N) := by
      have g : ∀ (c : Nat) (k : Int) (M : AM), RD M → RD (feL f c k M) := by
        intro c
        induction c with
        | zero => intro k M h; exact h
        | succ c ih2 => intro k M h; exact ih2 _ _ (h.other (by decide) (by decide) (fun q => absurd q (by decide)) _)
      exact g 3 0 N hD
    have hDA : RD (roT f N) := hDF.all hF.1 hfF hLF
    have e39 : mi (roT f N) 86 39 = t := (hA.2.2 39 (by decide)).trans ((hF.2.2 39).trans ht)
    exact ih (t + 1) (si (roT f N) 86 39 (mi (roT f N) 86 39 + 1)) ((hFF.all).one (by omega) _) (hA.1.other (by decide) (by decide) (hA.1.1.time (by omega) (by omega))) (hDA.other (by decide) (by decide) (fun _ => by omega) _)
      (by rw [mi_si_same _ _ _ (by omega) (by omega), e39]) (by omega) (by omega)
theorem roM_keep {m : AM} {f n : Int} (hRT : RT m) (hD : ∀ k : Nat, 36 ≤ k → k ≤ 38 → -1 ≤ mi m 86 k ∧ mi m 86 k ≤ 200) (hD1 : ∀ j : Nat, 0 ≤ mi m 111 j ∧ mi m 111 j ≤ 1) (hD2 : ∀ j : Nat, -1 ≤ mi m 112 j ∧ mi m 112 j ≤ 200) (hn0 : 0 ≤ n) (hn : n ≤ 200) (hf : 0 ≤ mi m 86 45 ∧ mi m 86 45 ≤ 10) (hLK : ∀ b j, 0 ≤ b → b < mi m 86 1 → 0 ≤ j → j < mi m 91 b.toNat → LK m b ((12 * b) + j)) : RT (roM m f n) ∧ RD (roM m f n) ∧ FR m (roM m f n) := by
  have hB := begin_keep hRT
  have hDB : RD (FX12_begin m) := by
    refine ⟨fun j => ?_, fun j => ?_, fun k a b => ?_⟩
    · unfold FX12_begin
      rw [mi_si_ne _ _ (fun q => absurd q.1 (by decide)), mi_fil, if_neg (fun q => absurd q.1 (by decide)), mi_fil, if_neg (fun q => absurd q.1 (by decide)), mi_fil]
      split
      · decide
      · rw [mi_fil, if_neg (fun q => absurd q.1 (by decide)), mi_fil, if_neg (fun q => absurd q.1 (by decide)), mi_fil, if_neg (fun q => absurd q.1 (by decide))]; exact hD1 j
    · unfold FX12_begin
      rw [mi_si_ne _ _ (fun q => absurd q.1 (by decide)), mi_fil, if_neg (fun q => absurd q.1 (by decide)), mi_fil]
      split
      · decide
      · rw [mi_fil, if_neg (fun q => absurd q.1 (by decide)), mi_fil, if_neg (fun q => absurd q.1 (by decide)), mi_fil, if_neg (fun q => absurd q.1 (by decide)), mi_fil, if_neg (fun q => absurd q.1 (by decide))]; exact hD2 j
    · by_cases e : k = 35
      · subst e
        unfold FX12_begin
        rw [mi_si_same _ _ _ (by decide) (by decide)]
        decide
      · rw [hB.2.2 k e]
        exact hD k (by omega) b
  have r := roL_keep (m := m) (f := f) hn hf hLK n.toNat 0 (si (FX12_begin m) 86 39 0) (((FR.rf m).begins).one (by omega) _) (hB.1.other (by decide) (by decide) (hB.1.1.time (by decide) (by decide))) (hDB.other (by decide) (by decide) (fun _ => by omega) _) (mi_si_same _ _ _ (by decide) (by decide)) (by omega) (Int.le_refl 0)
  exact ⟨r.1, r.2, (FR.rf m).run f n⟩


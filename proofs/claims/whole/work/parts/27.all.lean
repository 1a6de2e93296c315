/-- the reference's single numbers are the same, but for what a tick writes -/
def Fq (m N : AM) : Prop := ∀ k : Nat, k ∉ ([35, 36, 37, 38, 40] : List Nat) → mi N 86 k = mi m 86 k
theorem Fq.rf (m : AM) : Fq m m := fun _ _ => rfl
theorem Fq.trans {m M N : AM} (h : Fq m M) (h2 : Fq M N) : Fq m N := fun p hp => (h2 p hp).trans (h p hp)
theorem Fq.one {m N : AM} (h : Fq m N) {o : Nat} (ho : o ≠ 86) (k : Nat) (v : Int) : Fq m (si N o k v) := fun p hp => (mi_si_ne N v (fun q => ho q.1.symm)).trans (h p hp)
theorem Fq.own {m N : AM} (h : Fq m N) {k : Nat} (hk : k ∈ ([35, 36, 37, 38, 40] : List Nat)) (v : Int) : Fq m (si N 86 k v) := fun p hp => (mi_si_ne N v (fun q => hp (by rw [q.2]; exact hk))).trans (h p hp)
theorem Fq.put {m N : AM} (h : Fq m N) (b k v : Int) : Fq m (putX N b k v) := by
  unfold putX
  split
  · exact (h.one (by decide) _ _).one (by decide) _ _
  · exact h.one (by decide) _ _
theorem Fq.land {m N : AM} (h : Fq m N) (b l k v : Int) : Fq m (landM N b l k v).2 := by
  unfold landM
  split
  · split
    · exact h.put _ _ _
    · exact h
  · exact h.put _ _ _
theorem Fq.second {m N : AM} (h : Fq m N) (b l k : Int) : Fq m (doB N b l k).2 := by
  unfold doB
  split
  · exact h
  · exact h.land _ _ _ _
theorem Fq.line {m N : AM} (h : Fq m N) (b l : Int) : Fq m (doM N b l).2 := by
  unfold doM
  split
  · split
    · exact h
    · split
      · exact h
      · exact h.second _ _ _
  · exact h.second _ _ _
theorem Fq.cg {m N : AM} (h : Fq m N) (b p : Int) : Fq m (cgM N b p) := by
  unfold cgM
  split
  · exact (h.own (by decide) _).one (by decide) _ _
  · exact h.own (by decide) _
theorem Fq.kill {m N : AM} (h : Fq m N) (b y : Int) : Fq m (FX12_kill N b y) := fun k hk => (kill_mi N b y (by decide) (by decide) (by decide) k).trans (h k hk)
theorem Fq.tail {m N : AM} (h : Fq m N) (b p i : Int) : Fq m (FT_tickOf N b p i) := by
  have a := (h.kill b p).one (o := 112) (by decide) b.toNat (mi (FX12_kill N b p) 86 39)
  unfold FT_tickOf
  split
  · split
    · exact (((a.own (by decide) _).own (by decide) _).own (by decide) _).own (by decide) _
    · exact a
  · exact h
theorem Fq.lines {m : AM} {b : Int} : ∀ (c : Nat) (l p i : Int) (N : AM), Fq m N → Fq m (tkL b c l p i N).2.2 := by
  intro c
  induction c with
  | zero => intro l p i N h; exact h
  | succ c ih =>
    intro l p i N h
    by_cases hc2 : mi N 92 ((12 * b) + l).toNat = (if p > 0 then 1 else 0)
    · have e : tkL b (c + 1) l p i N = tkL b c (l + 1) (doM (cgM N b p) b l).1 l (doM (cgM N b p) b l).2 := if_pos hc2
      rw [e]
      exact ih _ _ _ _ ((h.cg b p).line b l)
    · have e : tkL b (c + 1) l p i N = tkL b c (l + 1) p i N := if_neg hc2
      rw [e]
      exact ih _ _ _ _ h
theorem Fq.tick (m : AM) (b : Int) : Fq m (tkM m b) := (Fq.lines _ _ _ _ _ (Fq.rf m)).tail _ _ _
/-- a tick of one box within a tick of all: may fail, may stop -/
def bxK (m : AM) (b : Int) : AM := if b = mi m 86 43 ∧ mi m 86 39 ≥ mi m 86 44 then FX12_kill m b (mi m 86 45) else m
def bxT (m : AM) (b : Int) : AM := if mi (bxK m b) 111 b.toNat ≠ 0 ∨ (b = mi (bxK m b) 86 46 ∧ mi (bxK m b) 86 39 ≥ mi (bxK m b) 86 47) then bxK m b else tkM (bxK m b) b
def taL : Nat → Int → AM → AM
  | 0, _, N => N
  | c + 1, b, N => taL c (b + 1) (bxT N b)
theorem bxK_keep {m : AM} (h : RT m) (hf : 0 ≤ mi m 86 45 ∧ mi m 86 45 ≤ 10) (b : Int) : RT (bxK m b) ∧ Fr m (bxK m b) ∧ Fq m (bxK m b) := by
  unfold bxK
  split
  · exact ⟨h.kill b hf.1 hf.2, (Fr.rf m).kill _ _, (Fq.rf m).kill _ _⟩
  · exact ⟨h, Fr.rf m, Fq.rf m⟩
theorem bxT_keep {m : AM} (h : RT m) (hf : 0 ≤ mi m 86 45 ∧ mi m 86 45 ≤ 10) {b : Int} (hLK : ∀ j, 0 ≤ j → j < mi m 91 b.toNat → LK m b ((12 * b) + j)) : RT (bxT m b) ∧ Fr m (bxT m b) ∧ Fq m (bxT m b) := by
  have k := bxK_keep h hf b
  have t := k.1.tick (b := b) (fun j h0 h1 => k.2.1.prog (hLK j h0 (by rw [← k.2.1 91 (by decide)]; exact h1)))
  unfold bxT
  split
  · exact k
  · exact ⟨t.1, k.2.1.trans t.2, k.2.2.trans (Fq.tick _ _)⟩


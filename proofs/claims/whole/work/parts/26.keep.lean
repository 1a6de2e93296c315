theorem RF.first {m : AM} (h : RF m) {k : Nat} (hk : k = 35 ∨ k = 36 ∨ k = 37 ∨ k = 38) (v : Int) : RF (si m 86 k v) := by
  obtain ⟨a, b, c, d, e, f, g, i, w⟩ := h
  have n : ∀ p, p ≠ 86 → ∀ j, mi (si m 86 k v) p j = mi m p j := fun p hp j => mi_si_ne m v (fun q => hp q.1)
  have hb : IM (si m 86 k v) := by
    rcases hk with rfl | rfl | rfl | rfl <;> exact b.one (by decide) (by decide) (by decide) (by decide) (by decide) (by decide)
  refine ⟨a, hb, fun j => ?_, fun j => ?_, fun j => ?_, fun j => ?_, ?_, ?_, fun j => ?_⟩
  · rw [n 110 (by decide)]; exact c j
  · rw [n 106 (by decide)]; exact d j
  · rw [n 109 (by decide)]; exact e j
  · rw [n 114 (by decide)]; exact f j
  · rw [mi_si_ne m v (by omega)]; exact g
  · rw [mi_si_ne m v (by omega)]; exact i
  · rw [n 89 (by decide)]; exact w j
/-- RF, and the ports keep their ranges -/
def RT (m : AM) : Prop := RF m ∧ (∀ j : Nat, -1000000 ≤ mi m 107 j ∧ mi m 107 j ≤ 1000000) ∧ ∀ j : Nat, 0 ≤ mi m 108 j ∧ mi m 108 j ≤ 10
theorem RT.other {m : AM} (h : RT m) {o k : Nat} {v : Int} (h1 : o ≠ 107) (h2 : o ≠ 108) (hf : RF (si m o k v)) : RT (si m o k v) :=
  ⟨hf, fun j => by rw [mi_si_ne m v (fun q => h1 q.1.symm)]; exact h.2.1 j, fun j => by rw [mi_si_ne m v (fun q => h2 q.1.symm)]; exact h.2.2 j⟩
theorem RT.put {m : AM} (h : RT m) (b k : Int) {v : Int} (h1 : -1000000 ≤ v) (h2 : v ≤ 1000000) : RT (putX m b k v) := by
  unfold putX
  split
  · refine ⟨(h.1.free (Or.inl rfl) _ _).free (Or.inr (Or.inl rfl)) _ _, fun j => ?_, fun j => ?_⟩
    · rw [mi_si_ne _ _ (fun q => absurd q.1 (by decide))]
      by_cases e : j = (((4 * b) + mi m 94 k.toNat) - 10).toNat
      · rw [e, mi_si_same _ _ _ (by omega) (by omega)]
        exact ⟨h1, h2⟩
      · rw [mi_si_ne _ _ (fun q => e q.2)]
        exact h.2.1 j
    · by_cases e : j = (((4 * b) + mi m 94 k.toNat) - 10).toNat
      · rw [e, mi_si_same _ _ _ (by decide) (by decide)]
        decide
      · rw [mi_si_ne _ _ (fun q => e q.2), mi_si_ne _ _ (fun q => absurd q.1 (by decide))]
        exact h.2.2 j
  · exact h.other (by decide) (by decide) (h.1.slot _ h1 h2)
theorem RT.land {m : AM} (h : RT m) {b k : Int} (hl : LK m b k) (l : Int) {v : Int} : RT (landM m b l k v).2 := by
  have hq := mostX_rng hl
  unfold landM
  split
  · split
    · exact h.put _ _ (by split <;> omega) (by split <;> omega)
    · exact h
  · exact h.put _ _ (by omega) (by omega)
theorem RT.second {m : AM} (h : RT m) {b k : Int} (hl : LK m b k) (l : Int) : RT (doB m b l k).2 := by
  unfold doB
  split
  · exact h
  · exact h.land hl _
theorem RT.line {m : AM} (h : RT m) {b l : Int} (hl : LK m b ((12 * b) + l)) : RT (doM m b l).2 := by
  unfold doM
  split
  · split
    · exact h
    · split
      · exact h
      · exact h.second hl _
  · exact h.second hl _
theorem RT.cg {m : AM} (h : RT m) (b : Int) {p : Int} (h1 : 0 ≤ p) (h2 : p ≤ 10) : RT (cgM m b p) := by
  have a := h.other (by decide) (by decide) (h.1.caught h1 h2)
  unfold cgM
  split
  · exact a.other (by decide) (by decide) (a.1.free (Or.inr (Or.inr (Or.inr (Or.inr rfl)))) _ _)
  · exact a
theorem RT.kill {m : AM} (h : RT m) (b : Int) {y : Int} (h1 : 0 ≤ y) (h2 : y ≤ 10) : RT (FX12_kill m b y) := by
  refine ⟨h.1.kill b y, fun j => ?_, fun j => ?_⟩
  · unfold FX12_kill
    rw [mi_fil, if_neg (fun q => absurd q.1 (by decide)), mi_fil]
    split
    · decide
    · rw [mi_si_ne _ _ (fun q => absurd q.1 (by decide))]
      exact h.2.1 j
  · unfold FX12_kill
    rw [mi_fil]
    split
    · rw [zi_toInt (by omega) (by omega)]
      exact ⟨h1, h2⟩
    · rw [mi_fil, if_neg (fun q => absurd q.1 (by decide)), mi_si_ne _ _ (fun q => absurd q.1 (by decide))]
      exact h.2.2 j
theorem RT.tail {m : AM} (h : RT m) (b : Int) {p : Int} (i : Int) (h1 : 0 ≤ p) (h2 : p ≤ 4) : RT (FT_tickOf m b p i) := by
  have k := h.kill b h1 (show p ≤ 10 by omega)
  have a := k.other (o := 112) (k := b.toNat) (v := mi (FX12_kill m b p) 86 39) (by decide) (by decide) (k.1.free (Or.inr (Or.inr (Or.inr (Or.inl rfl)))) _ _)
  have f : ∀ {N : AM}, RT N → ∀ {k : Nat}, (k = 35 ∨ k = 36 ∨ k = 37 ∨ k = 38) → ∀ v, RT (si N 86 k v) := fun {N} hN {k} hk v => hN.other (by decide) (by decide) (hN.1.first hk v)
  unfold FT_tickOf
  split
  · split
    · exact f (f (f (f a (Or.inl rfl) _) (Or.inr (Or.inl rfl)) _) (Or.inr (Or.inr (Or.inl rfl))) _) (Or.inr (Or.inr (Or.inr rfl))) _
    · exact a
  · exact h
theorem Fr.tail {m N : AM} (h : Fr m N) (b p i : Int) : Fr m (FT_tickOf N b p i) := by
  have a := (h.kill b p).one (o := 112) (by decide) b.toNat (mi (FX12_kill N b p) 86 39)
  unfold FT_tickOf
  split
  · split
    · exact (((a.one (by decide) _ _).one (by decide) _ _).one (by decide) _ _).one (by decide) _ _
    · exact a
  · exact h
theorem tkL_keep {m : AM} {b n : Int} (hn : n ≤ 12) (hLK : ∀ j, 0 ≤ j → j < n → LK m b ((12 * b) + j)) : ∀ (c : Nat) (l p i : Int) (N : AM), Fr m N → RT N → l + c = n → 0 ≤ l → 0 ≤ p → p ≤ 4 → 0 ≤ i → i ≤ 11 → Fr m (tkL b c l p i N).2.2 ∧ RT (tkL b c l p i N).2.2 ∧ (0 ≤ (tkL b c l p i N).1 ∧ (tkL b c l p i N).1 ≤ 4) := by
  intro c
  induction c with
  | zero => intro l p i N hf hR _ _ h0 h4 _ _; exact ⟨hf, hR, h0, h4⟩
  | succ c ih =>
    intro l p i N hf hR hc hl h0 h4 hi hi1
    have hL := hLK l hl (by omega)
    by_cases hc2 : mi N 92 ((12 * b) + l).toNat = (if p > 0 then 1 else 0)
    · have hr := doM_r (cgM N b p) b l
      have hF := (hf.cg b p).line b l
      have hT := (hR.cg b h0 (show p ≤ 10 by omega)).line ((hf.cg b p).prog hL)
      have e : tkL b (c + 1) l p i N = tkL b c (l + 1) (doM (cgM N b p) b l).1 l (doM (cgM N b p) b l).2 := if_pos hc2
      rw [e]
      exact ih (l + 1) (doM (cgM N b p) b l).1 l (doM (cgM N b p) b l).2 hF hT (by omega) (by omega) hr.1 hr.2 hl (by omega)
    · have e : tkL b (c + 1) l p i N = tkL b c (l + 1) p i N := if_neg hc2
      rw [e]
      exact ih (l + 1) p i N hf hR (by omega) (by omega) h0 h4 hi hi1
theorem RT.tick {m : AM} (h : RT m) {b : Int} (hLK : ∀ j, 0 ≤ j → j < mi m 91 b.toNat → LK m b ((12 * b) + j)) : RT (tkM m b) ∧ Fr m (tkM m b) := by
  have h91 := h.1.2.1.a 91 0 12 (by decide) b.toNat
  have k := tkL_keep h91.2 hLK (mi m 91 b.toNat).toNat 0 0 0 m (Fr.rf m) h (by omega) (by omega) (by omega) (by omega) (by omega) (by omega)
  exact ⟨k.2.1.tail b _ k.2.2.1 k.2.2.2, k.1.tail _ _ _⟩


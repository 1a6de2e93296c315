theorem IM.one {m : AM} (h : IM m) {o k : Nat} {v : Int} (hS : ∀ q ∈ imS, ¬ (q.1 = o ∧ q.2.1 = k)) (hA : ∀ q ∈ imA, q.1 ≠ o) (h3 : ¬ 139 = o) (h4 : ¬ (86 = o ∧ 1 = k)) (h5 : ∀ j : Nat, j < 6 → ¬ (68 + 3 * j = o ∧ 2 = k)) (h6 : ¬ (0 = o ∧ 16 = k)) : IM (si m o k v) := by
  refine ⟨fun q hq => ?_, fun q hq j => ?_, fun j hj => ?_⟩
  · rw [mi_si_ne m v (hS q hq)]
    exact h.1 q hq
  · rw [mi_si_ne m v (fun e => hA q hq e.1)]
    exact h.2.1 q hq j
  · rw [mi_si_ne m v (fun e => h3 e.1), mi_si_ne m v h4, mi_si_ne m v (h5 j hj), mi_si_ne m v h6]
    exact h.2.2 j hj
theorem IM.oneA {m : AM} (h : IM m) {o k : Nat} {v : Int} (hS : ∀ q ∈ imS, q.1 ≠ o) (hA : ∀ q ∈ imA, q.1 ≠ o) (h3 : ¬ 139 = o) (h4 : ¬ 86 = o) (h5 : ∀ j : Nat, j < 6 → ¬ 68 + 3 * j = o) (h6 : ¬ 0 = o) : IM (si m o k v) :=
  h.one (fun q hq e => hS q hq e.1) hA h3 (fun e => h4 e.1) (fun j hj e => h5 j hj e.1) (fun e => h6 e.1)
theorem RF.slot {m : AM} (h : RF m) (k : Nat) {v : Int} (h1 : -1000000 ≤ v) (h2 : v ≤ 1000000) : RF (si m 106 k v) := by
  obtain ⟨a, b, c, d, e, f, g, i, w⟩ := h
  have n : ∀ p, p ≠ 106 → ∀ j, mi (si m 106 k v) p j = mi m p j := fun p hp j => mi_si_ne m v (fun q => hp q.1)
  refine ⟨a, b.oneA (by decide) (by decide) (by decide) (by decide) (by decide) (by decide), fun j => ?_, fun j => ?_, fun j => ?_, fun j => ?_, ?_, ?_, fun j => ?_⟩
  · rw [n 110 (by decide)]; exact c j
  · by_cases e : j = k
    · rw [e, mi_si_same m 106 k (by omega) (by omega)]; exact ⟨h1, h2⟩
    · rw [mi_si_ne m v (fun q => e q.2)]; exact d j
  · rw [n 109 (by decide)]; exact e j
  · rw [n 114 (by decide)]; exact f j
  · rw [n 86 (by decide)]; exact g
  · rw [n 86 (by decide)]; exact i
  · rw [n 89 (by decide)]; exact w j
theorem RF.free {m : AM} (h : RF m) {o : Nat} (ho : o = 107 ∨ o = 108 ∨ o = 111 ∨ o = 112 ∨ o = 113) (k : Nat) (v : Int) : RF (si m o k v) := by
  obtain ⟨a, b, c, d, e, f, g, i, w⟩ := h
  have n : ∀ p, p ≠ 107 → p ≠ 108 → p ≠ 111 → p ≠ 112 → p ≠ 113 → ∀ j, mi (si m o k v) p j = mi m p j := fun p _ _ _ _ _ j => mi_si_ne m v (fun q => by omega)
  have hb : IM (si m o k v) := by
    rcases ho with rfl | rfl | rfl | rfl | rfl <;> exact b.oneA (by decide) (by decide) (by decide) (by decide) (by decide) (by decide)
  refine ⟨a, hb, fun j => ?_, fun j => ?_, fun j => ?_, fun j => ?_, ?_, ?_, fun j => ?_⟩
  · rw [n 110 (by decide) (by decide) (by decide) (by decide) (by decide)]; exact c j
  · rw [n 106 (by decide) (by decide) (by decide) (by decide) (by decide)]; exact d j
  · rw [n 109 (by decide) (by decide) (by decide) (by decide) (by decide)]; exact e j
  · rw [n 114 (by decide) (by decide) (by decide) (by decide) (by decide)]; exact f j
  · rw [n 86 (by decide) (by decide) (by decide) (by decide) (by decide)]; exact g
  · rw [n 86 (by decide) (by decide) (by decide) (by decide) (by decide)]; exact i
  · rw [n 89 (by decide) (by decide) (by decide) (by decide) (by decide)]; exact w j
theorem RF.caught {m : AM} (h : RF m) {v : Int} (h1 : 0 ≤ v) (h2 : v ≤ 10) : RF (si m 86 40 v) := by
  obtain ⟨a, b, c, d, e, f, g, i, w⟩ := h
  have n : ∀ p, p ≠ 86 → ∀ j, mi (si m 86 40 v) p j = mi m p j := fun p hp j => mi_si_ne m v (fun q => hp q.1)
  refine ⟨a, b.one (by decide) (by decide) (by decide) (by decide) (by decide) (by decide), fun j => ?_, fun j => ?_, fun j => ?_, fun j => ?_, ?_, ?_, fun j => ?_⟩
  · rw [n 110 (by decide)]; exact c j
  · rw [n 106 (by decide)]; exact d j
  · rw [n 109 (by decide)]; exact e j
  · rw [n 114 (by decide)]; exact f j
  · rw [mi_si_ne m v (by decide)]; exact g
  · rw [mi_si_same m 86 40 (by omega) (by omega)]; exact ⟨h1, h2⟩
  · rw [n 89 (by decide)]; exact w j
/-- the rows of the programs are the same -/
def Fr (m N : AM) : Prop := ∀ p ∈ ([88, 91, 92, 93, 94, 95, 96, 97, 98, 99] : List Nat), ∀ i : Nat, mi N p i = mi m p i
theorem Fr.rf (m : AM) : Fr m m := fun _ _ _ => rfl
theorem Fr.trans {m M N : AM} (h : Fr m M) (h2 : Fr M N) : Fr m N := fun p hp i => (h2 p hp i).trans (h p hp i)
theorem Fr.one {m N : AM} (h : Fr m N) {o : Nat} (ho : o ∉ ([88, 91, 92, 93, 94, 95, 96, 97, 98, 99] : List Nat)) (k : Nat) (v : Int) : Fr m (si N o k v) := fun p hp i => (mi_si_ne N v (fun q => ho (by rw [← q.1]; exact hp))).trans (h p hp i)
theorem Fr.cd {m N : AM} (h : Fr m N) : cdX N = cdX m := by
  funext i
  unfold cdX
  rw [h 98 (by decide), h 99 (by decide)]
theorem Fr.prog {m N : AM} (h : Fr m N) {b k : Int} (hl : LK m b k) : LK N b k := by
  unfold LK
  rw [h.cd, h 95 (by decide), h 96 (by decide), h 97 (by decide), h 94 (by decide), h 88 (by decide)]
  exact hl
theorem Fr.put {m N : AM} (h : Fr m N) (b k v : Int) : Fr m (putX N b k v) := by
  unfold putX
  split
  · exact (h.one (by decide) _ _).one (by decide) _ _
  · exact h.one (by decide) _ _
theorem Fr.land {m N : AM} (h : Fr m N) (b l k v : Int) : Fr m (landM N b l k v).2 := by
  unfold landM
  split
  · split
    · exact h.put _ _ _
    · exact h
  · exact h.put _ _ _
theorem Fr.second {m N : AM} (h : Fr m N) (b l k : Int) : Fr m (doB N b l k).2 := by
  unfold doB
  split
  · exact h
  · exact h.land _ _ _ _
theorem Fr.line {m N : AM} (h : Fr m N) (b l : Int) : Fr m (doM N b l).2 := by
  unfold doM
  split
  · split
    · exact h
    · split
      · exact h
      · exact h.second _ _ _
  · exact h.second _ _ _
theorem RF.put {m : AM} (h : RF m) (b k : Int) {v : Int} (h1 : -1000000 ≤ v) (h2 : v ≤ 1000000) : RF (putX m b k v) := by
  unfold putX
  split
  · exact (h.free (Or.inl rfl) _ _).free (Or.inr (Or.inl rfl)) _ _
  · exact h.slot _ h1 h2
theorem RF.land {m : AM} (h : RF m) {b k : Int} (hl : LK m b k) (l v : Int) : RF (landM m b l k v).2 := by
  have hq := mostX_rng hl
  unfold landM
  split
  · split
    · exact h.put _ _ (by split <;> omega) (by split <;> omega)
    · exact h
  · exact h.put _ _ (by omega) (by omega)
theorem RF.second {m : AM} (h : RF m) {b k : Int} (hl : LK m b k) (l : Int) : RF (doB m b l k).2 := by
  unfold doB
  split
  · exact h
  · exact h.land hl _ _
theorem RF.line {m : AM} (h : RF m) {b l : Int} (hl : LK m b ((12 * b) + l)) : RF (doM m b l).2 := by
  unfold doM
  split
  · split
    · exact h
    · split
      · exact h
      · exact h.second hl _
  · exact h.second hl _
theorem landM_r (m : AM) (b l k v : Int) : 0 ≤ (landM m b l k v).1 ∧ (landM m b l k v).1 ≤ 4 := by
  unfold landM
  repeat' split
  all_goals (dsimp only; omega)
theorem doB_r (m : AM) (b l k : Int) : 0 ≤ (doB m b l k).1 ∧ (doB m b l k).1 ≤ 4 := by
  unfold doB
  split
  · exact eM_r _ _ _ _
  · exact landM_r _ _ _ _ _
theorem doM_r (m : AM) (b l : Int) : 0 ≤ (doM m b l).1 ∧ (doM m b l).1 ≤ 4 := by
  unfold doM
  split
  · split
    · exact eM_r _ _ _ _
    · split
      · exact ⟨Int.le_refl _, show (0 : Int) ≤ 4 by decide⟩
      · exact doB_r _ _ _ _
  · exact doB_r _ _ _ _
/-- a line begins: what is caught, how often -/
def cgM (N : AM) (b p : Int) : AM := if p > 0 then si (si N 86 40 p) 113 b.toNat (mi N 113 b.toNat + 1) else si N 86 40 p
/-- the lines of a box from l on: what is pending, the line, the memory -/
def tkL (b : Int) : Nat → Int → Int → Int → AM → Int × Int × AM
  | 0, _, p, i, N => (p, i, N)
  | c + 1, l, p, i, N => if mi N 92 ((12 * b) + l).toNat = (if p > 0 then 1 else 0) then tkL b c (l + 1) (doM (cgM N b p) b l).1 l (doM (cgM N b p) b l).2 else tkL b c (l + 1) p i N
theorem RF.cg {m : AM} (h : RF m) (b : Int) {p : Int} (h1 : 0 ≤ p) (h2 : p ≤ 10) : RF (cgM m b p) := by
  unfold cgM
  split
  · exact (h.caught h1 h2).free (Or.inr (Or.inr (Or.inr (Or.inr rfl)))) _ _
  · exact h.caught h1 h2
theorem Fr.cg {m N : AM} (h : Fr m N) (b p : Int) : Fr m (cgM N b p) := by
  unfold cgM
  split
  · exact (h.one (by decide) _ _).one (by decide) _ _
  · exact h.one (by decide) _ _
theorem SameP.cg {m M : AM} (h : SameP m M) (b p : Int) : SameP (cgM m b p) (cgM M b p) := by
  unfold cgM
  rw [h.mi 113]
  split
  · exact (h.si _ _ _).si _ _ _
  · exact h.si _ _ _
theorem SameP.line {m M : AM} (h : SameP m M) (b l : Int) : (doM M b l).1 = (doM m b l).1 ∧ SameP (doM m b l).2 (doM M b l).2 := by
  unfold doM
  simp only [h.eM, h.mi]
  split
  · split
    · exact ⟨rfl, h⟩
    · split
      · exact ⟨rfl, h⟩
      · exact h.second _ _ _
  · exact h.second _ _ _

set_option maxRecDepth 20000 in
set_option maxHeartbeats 4000000 in
theorem lp_tickOf_7 {G : QW} {m : AM} {b : Int} {E : Int × Int × AM} {Rp : Option Vl → AM → Prop} (hb0 : 0 ≤ b) (hb5 : b ≤ 5) (hlm : mi m 91 b.toNat ≤ 12) (hLK : ∀ j, 0 ≤ j → j < mi m 91 b.toNat → LK m b ((12 * b) + j))
    (hexit : ∀ M, SameP E.2.2 M → RF E.2.2 → 0 ≤ E.1 → E.1 ≤ 4 → 0 ≤ E.2.1 → E.2.1 ≤ 11 → qJ G mX12_tickOf { frames := 3, cells := 0, slots := 0, locals := 60 * 3 } (qF G Rp 0 0) 81 [(0, vR 86), (1, vI b), (2, vI E.1), (3, vI E.2.1)] [] M 0 0) : ∀ (c : Nat) (l p i : Int) (N M : AM), Fr m N → RF N → SameP N M → l + c = mi m 91 b.toNat → 0 ≤ l → 0 ≤ p → p ≤ 4 → 0 ≤ i → i ≤ 11 → tkL b c l p i N = E → qJ G mX12_tickOf { frames := 3, cells := 0, slots := 0, locals := 60 * 3 } (qF G Rp 0 0) 7 [(0, vR 86), (1, vI b), (2, vI p), (3, vI i), (4, vI l)] [] M 0 0 := by
  intro c
  induction c with
  | zero =>
    intro l p i N M hfr hRN hs hc hl0 hp0 hp4 hi0 hi1 hE
    have hRM := hs.RF hRN
    obtain ⟨hS, hI, -⟩ := hRM
    have hml : mi M 91 b.toNat = mi m 91 b.toNat := (hs.mi 91 _).trans (hfr 91 (by decide) _)
    have hE : (p, i, N) = E := hE
    refine j_iload rfl rfl ?_
    refine j_aload_n rfl rfl ?_
    refine j_getR (q := 91) rfl f_X12_22 rfl (hS.lt (by decide)) (hS.k (by decide) (by decide)) (hS.r (by decide)) ?_
    refine j_iload_n rfl rfl ?_
    refine j_iald (n := 7) rfl (hS.lt (by decide)) (hS.k (by decide) (by decide)) (hS.n (by decide) (by decide)) (by omega) (by omega) (by decide) ?_
    have u14_1 := hI.a 91 (0) 12 (by decide) b.toNat
    refine j_icmp_ge (tgt := 81) rfl (by decide) (by omega) (by omega) (by omega) (by omega) (fun hb15_1 => ?_) (fun hb15_1 => ?_)
    · skip
      refine j_loc (ls' := [(0, vR 86), (1, vI b), (2, vI p), (3, vI i)]) rfl ?_
      subst hE
      exact hexit M hs hRN hp0 hp4 hi0 hi1
    · skip
      exfalso; omega
  | succ c ih =>
    intro l p i N M hfr hRN hs hc hl0 hp0 hp4 hi0 hi1 hE
    have hRM := hs.RF hRN
    obtain ⟨hS, hI, -⟩ := hRM
    have hml : mi M 91 b.toNat = mi m 91 b.toNat := (hs.mi 91 _).trans (hfr 91 (by decide) _)
    simp only [tkL] at hE
    refine j_iload rfl rfl ?_
    refine j_aload_n rfl rfl ?_
    refine j_getR (q := 91) rfl f_X12_22 rfl (hS.lt (by decide)) (hS.k (by decide) (by decide)) (hS.r (by decide)) ?_
    refine j_iload_n rfl rfl ?_
    refine j_iald (n := 7) rfl (hS.lt (by decide)) (hS.k (by decide) (by decide)) (hS.n (by decide) (by decide)) (by omega) (by omega) (by decide) ?_
    have u14_1 := hI.a 91 (0) 12 (by decide) b.toNat
    refine j_icmp_ge (tgt := 81) rfl (by decide) (by omega) (by omega) (by omega) (by omega) (fun hb15_1 => ?_) (fun hb15_1 => ?_)
    · skip
      exfalso; omega
    · skip
      refine j_aload_n rfl rfl ?_
      refine j_getR (q := 92) rfl f_X12_25 rfl (hS.lt (by decide)) (hS.k (by decide) (by decide)) (hS.r (by decide)) ?_
      refine j_bipush rfl (by decide) ?_
      refine j_iload_n rfl rfl ?_
      refine j_imul rfl ?_
      refine j_iload rfl rfl ?_
      refine j_iadd rfl ?_
      refine j_zald (n := 84) rfl (hS.lt (by decide)) (hS.k (by decide) (by decide)) (hS.n (by decide) (by decide)) (by omega) (by omega) (by decide) ?_
      have u29_1 := hI.a 92 (0) 1 (by decide) ((12 * b) + l).toNat
      refine j_iload_n rfl rfl ?_
      refine j_if_le (tgt := 38) rfl (by decide) (by omega) (by omega) (fun hb31_1 => ?_) (fun hb31_1 => ?_)
      · skip
        refine j_iconst rfl ?_
        refine j_icmp_eq (tgt := 45) rfl (by decide) (by omega) (by omega) (by omega) (by omega) (fun hb39_1 => ?_) (fun hb39_1 => ?_)
        · skip
          refine j_aload_n rfl rfl ?_
          refine j_iload_n rfl rfl ?_
          refine j_putI rfl f_X12_325 rfl (hS.lt (by decide)) (hS.k (by decide) (by decide)) ?_
          refine j_iload_n rfl rfl ?_
          refine j_if_le (tgt := 64) rfl (by decide) (by omega) (by omega) (fun hb51_1 => ?_) (fun hb51_1 => ?_)
          · skip
            have hcg : (si M 86 40 p) = cgM M b p := by unfold cgM; first | (rw [if_pos (by omega)]; done) | (rw [if_neg (by omega)]; done)
            rw [hcg]
            have hRC : RF (cgM M b p) := (hs.cg b p).RF (hRN.cg b hp0 (by omega))
            have hLC : LK (cgM M b p) b ((12 * b) + l) := (hs.cg b p).LK ((hfr.cg b p).prog (hLK l hl0 (by omega)))
            have hc : mi N 92 ((12 * b) + l).toNat = (if p > 0 then 1 else 0) := by rw [← hs.mi 92]; split <;> omega
            rw [if_pos hc] at hE
            have hRC0 := hRC
            obtain ⟨hS, hI, -⟩ := hRC0
            refine j_aload_n rfl rfl ?_
            refine j_iload_n rfl rfl ?_
            refine j_iload rfl rfl ?_
            refine j_callV (ci := 12) rfl okX12_doLine c_X12_346 (ct_X12_doLine hRC hb0 hb5 hl0 (by omega) hLC) rfl rfl (hS.lt (by decide)) (hS.k (by decide) (by decide)) (by decide) rfl (Nat.le_of_ble_eq_true rfl) (by decide) (by decide) ?_
            rintro vq M2 ⟨hs2, e1⟩
            have e3 := (hs.cg b p).line b l
            rw [e1, e3.1]
            clear e1
            simp only [Option.toList_some, Option.toList_none, List.cons_append, List.nil_append]
            refine j_istore_n rfl (by decide) ?_
            refine j_iload rfl rfl ?_
            refine j_istore_n rfl (by decide) ?_
            refine j_iinc rfl rfl (by decide) ?_
            refine j_goto (tgt := 7) rfl (by decide) ?_
            refine j_loc (ls' := [(0, vR 86), (1, vI b), (2, vI (doM (cgM N b p) b l).1), (3, vI l), (4, vI (l + 1))]) rfl ?_
            exact ih (l + 1) (doM (cgM N b p) b l).1 l (doM (cgM N b p) b l).2 M2 ((hfr.cg b p).line b l) ((hRN.cg b hp0 (by omega)).line ((hfr.cg b p).prog (hLK l hl0 (by omega)))) (e3.2.trans hs2) (by omega) (by omega) (doM_r _ _ _).1 (doM_r _ _ _).2 hl0 (by omega) hE
          · skip
            refine j_aload_n rfl rfl ?_
            refine j_getR (q := 113) rfl f_X12_90 rfl (hS.lt (by decide)) (hS.k (by decide) (by decide)) (hS.r (by decide)) ?_
            refine j_iload_n rfl rfl ?_
            refine j_dup2 rfl (Nat.ne_of_beq_eq_false rfl) (Nat.ne_of_beq_eq_false rfl) ?_
            refine j_iald (n := 6) rfl (hS.lt (by decide)) (hS.k (by decide) (by decide)) (hS.n (by decide) (by decide)) (by omega) (by omega) (by decide) ?_
            rw [show mi (si M 86 40 p) 113 b.toNat = mi M 113 b.toNat from by simp [mi_si, mi_fil, mi_cpr, mi_sl, mi_sr, ml_sl, ml_si, ml_sr, ml_fil, ml_cpr]]
            have u60_1 := mi_rng M 113 b.toNat
            refine j_iconst rfl ?_
            refine j_iadd rfl ?_
            refine j_iast (n := 6) rfl (hS.lt (by decide)) (hS.k (by decide) (by decide)) (hS.n (by decide) (by decide)) (by omega) (by omega) (by first | decide | omega) ?_
            have hcg : (si (si M 86 40 p) 113 b.toNat ((mi M 113 b.toNat) + 1)) = cgM M b p := by unfold cgM; first | (rw [if_pos (by omega)]; done) | (rw [if_neg (by omega)]; done)
            rw [hcg]
            have hRC : RF (cgM M b p) := (hs.cg b p).RF (hRN.cg b hp0 (by omega))
            have hLC : LK (cgM M b p) b ((12 * b) + l) := (hs.cg b p).LK ((hfr.cg b p).prog (hLK l hl0 (by omega)))
            have hc : mi N 92 ((12 * b) + l).toNat = (if p > 0 then 1 else 0) := by rw [← hs.mi 92]; split <;> omega
            rw [if_pos hc] at hE
            have hRC0 := hRC
            obtain ⟨hS, hI, -⟩ := hRC0
            refine j_aload_n rfl rfl ?_
            refine j_iload_n rfl rfl ?_
            refine j_iload rfl rfl ?_
            refine j_callV (ci := 12) rfl okX12_doLine c_X12_346 (ct_X12_doLine hRC hb0 hb5 hl0 (by omega) hLC) rfl rfl (hS.lt (by decide)) (hS.k (by decide) (by decide)) (by decide) rfl (Nat.le_of_ble_eq_true rfl) (by decide) (by decide) ?_
            rintro vq M2 ⟨hs2, e1⟩
            have e3 := (hs.cg b p).line b l
            rw [e1, e3.1]
            clear e1
            simp only [Option.toList_some, Option.toList_none, List.cons_append, List.nil_append]
            refine j_istore_n rfl (by decide) ?_
            refine j_iload rfl rfl ?_
            refine j_istore_n rfl (by decide) ?_
            refine j_iinc rfl rfl (by decide) ?_
            refine j_goto (tgt := 7) rfl (by decide) ?_
            refine j_loc (ls' := [(0, vR 86), (1, vI b), (2, vI (doM (cgM N b p) b l).1), (3, vI l), (4, vI (l + 1))]) rfl ?_
            exact ih (l + 1) (doM (cgM N b p) b l).1 l (doM (cgM N b p) b l).2 M2 ((hfr.cg b p).line b l) ((hRN.cg b hp0 (by omega)).line ((hfr.cg b p).prog (hLK l hl0 (by omega)))) (e3.2.trans hs2) (by omega) (by omega) (doM_r _ _ _).1 (doM_r _ _ _).2 hl0 (by omega) hE
        · skip
          refine j_goto (tgt := 75) rfl (by decide) ?_
          refine j_iinc rfl rfl (by decide) ?_
          refine j_goto (tgt := 7) rfl (by decide) ?_
          refine j_loc (ls' := [(0, vR 86), (1, vI b), (2, vI p), (3, vI i), (4, vI (l + 1))]) rfl ?_
          have hc : ¬ mi N 92 ((12 * b) + l).toNat = (if p > 0 then 1 else 0) := by rw [← hs.mi 92]; split <;> omega
          rw [if_neg hc] at hE
          exact ih (l + 1) p i N M hfr hRN hs (by omega) (by omega) hp0 hp4 hi0 hi1 hE
      · skip
        refine j_iconst rfl ?_
        refine j_goto (tgt := 39) rfl (by decide) ?_
        refine j_icmp_eq (tgt := 45) rfl (by decide) (by omega) (by omega) (by omega) (by omega) (fun hb39_2 => ?_) (fun hb39_2 => ?_)
        · skip
          refine j_aload_n rfl rfl ?_
          refine j_iload_n rfl rfl ?_
          refine j_putI rfl f_X12_325 rfl (hS.lt (by decide)) (hS.k (by decide) (by decide)) ?_
          refine j_iload_n rfl rfl ?_
          refine j_if_le (tgt := 64) rfl (by decide) (by omega) (by omega) (fun hb51_2 => ?_) (fun hb51_2 => ?_)
          · skip
            have hcg : (si M 86 40 p) = cgM M b p := by unfold cgM; first | (rw [if_pos (by omega)]; done) | (rw [if_neg (by omega)]; done)
            rw [hcg]
            have hRC : RF (cgM M b p) := (hs.cg b p).RF (hRN.cg b hp0 (by omega))
            have hLC : LK (cgM M b p) b ((12 * b) + l) := (hs.cg b p).LK ((hfr.cg b p).prog (hLK l hl0 (by omega)))
            have hc : mi N 92 ((12 * b) + l).toNat = (if p > 0 then 1 else 0) := by rw [← hs.mi 92]; split <;> omega
            rw [if_pos hc] at hE
            have hRC0 := hRC
            obtain ⟨hS, hI, -⟩ := hRC0
            refine j_aload_n rfl rfl ?_
            refine j_iload_n rfl rfl ?_
            refine j_iload rfl rfl ?_
            refine j_callV (ci := 12) rfl okX12_doLine c_X12_346 (ct_X12_doLine hRC hb0 hb5 hl0 (by omega) hLC) rfl rfl (hS.lt (by decide)) (hS.k (by decide) (by decide)) (by decide) rfl (Nat.le_of_ble_eq_true rfl) (by decide) (by decide) ?_
            rintro vq M2 ⟨hs2, e1⟩
            have e3 := (hs.cg b p).line b l
            rw [e1, e3.1]
            clear e1
            simp only [Option.toList_some, Option.toList_none, List.cons_append, List.nil_append]
            refine j_istore_n rfl (by decide) ?_
            refine j_iload rfl rfl ?_
            refine j_istore_n rfl (by decide) ?_
            refine j_iinc rfl rfl (by decide) ?_
            refine j_goto (tgt := 7) rfl (by decide) ?_
            refine j_loc (ls' := [(0, vR 86), (1, vI b), (2, vI (doM (cgM N b p) b l).1), (3, vI l), (4, vI (l + 1))]) rfl ?_
            exact ih (l + 1) (doM (cgM N b p) b l).1 l (doM (cgM N b p) b l).2 M2 ((hfr.cg b p).line b l) ((hRN.cg b hp0 (by omega)).line ((hfr.cg b p).prog (hLK l hl0 (by omega)))) (e3.2.trans hs2) (by omega) (by omega) (doM_r _ _ _).1 (doM_r _ _ _).2 hl0 (by omega) hE
          · skip
            refine j_aload_n rfl rfl ?_
            refine j_getR (q := 113) rfl f_X12_90 rfl (hS.lt (by decide)) (hS.k (by decide) (by decide)) (hS.r (by decide)) ?_
            refine j_iload_n rfl rfl ?_
            refine j_dup2 rfl (Nat.ne_of_beq_eq_false rfl) (Nat.ne_of_beq_eq_false rfl) ?_
            refine j_iald (n := 6) rfl (hS.lt (by decide)) (hS.k (by decide) (by decide)) (hS.n (by decide) (by decide)) (by omega) (by omega) (by decide) ?_
            rw [show mi (si M 86 40 p) 113 b.toNat = mi M 113 b.toNat from by simp [mi_si, mi_fil, mi_cpr, mi_sl, mi_sr, ml_sl, ml_si, ml_sr, ml_fil, ml_cpr]]
            have u60_2 := mi_rng M 113 b.toNat
            refine j_iconst rfl ?_
            refine j_iadd rfl ?_
            refine j_iast (n := 6) rfl (hS.lt (by decide)) (hS.k (by decide) (by decide)) (hS.n (by decide) (by decide)) (by omega) (by omega) (by first | decide | omega) ?_
            have hcg : (si (si M 86 40 p) 113 b.toNat ((mi M 113 b.toNat) + 1)) = cgM M b p := by unfold cgM; first | (rw [if_pos (by omega)]; done) | (rw [if_neg (by omega)]; done)
            rw [hcg]
            have hRC : RF (cgM M b p) := (hs.cg b p).RF (hRN.cg b hp0 (by omega))
            have hLC : LK (cgM M b p) b ((12 * b) + l) := (hs.cg b p).LK ((hfr.cg b p).prog (hLK l hl0 (by omega)))
            have hc : mi N 92 ((12 * b) + l).toNat = (if p > 0 then 1 else 0) := by rw [← hs.mi 92]; split <;> omega
            rw [if_pos hc] at hE
            have hRC0 := hRC
            obtain ⟨hS, hI, -⟩ := hRC0
            refine j_aload_n rfl rfl ?_
            refine j_iload_n rfl rfl ?_
            refine j_iload rfl rfl ?_
            refine j_callV (ci := 12) rfl okX12_doLine c_X12_346 (ct_X12_doLine hRC hb0 hb5 hl0 (by omega) hLC) rfl rfl (hS.lt (by decide)) (hS.k (by decide) (by decide)) (by decide) rfl (Nat.le_of_ble_eq_true rfl) (by decide) (by decide) ?_
            rintro vq M2 ⟨hs2, e1⟩
            have e3 := (hs.cg b p).line b l
            rw [e1, e3.1]
            clear e1
            simp only [Option.toList_some, Option.toList_none, List.cons_append, List.nil_append]
            refine j_istore_n rfl (by decide) ?_
            refine j_iload rfl rfl ?_
            refine j_istore_n rfl (by decide) ?_
            refine j_iinc rfl rfl (by decide) ?_
            refine j_goto (tgt := 7) rfl (by decide) ?_
            refine j_loc (ls' := [(0, vR 86), (1, vI b), (2, vI (doM (cgM N b p) b l).1), (3, vI l), (4, vI (l + 1))]) rfl ?_
            exact ih (l + 1) (doM (cgM N b p) b l).1 l (doM (cgM N b p) b l).2 M2 ((hfr.cg b p).line b l) ((hRN.cg b hp0 (by omega)).line ((hfr.cg b p).prog (hLK l hl0 (by omega)))) (e3.2.trans hs2) (by omega) (by omega) (doM_r _ _ _).1 (doM_r _ _ _).2 hl0 (by omega) hE
        · skip
          refine j_goto (tgt := 75) rfl (by decide) ?_
          refine j_iinc rfl rfl (by decide) ?_
          refine j_goto (tgt := 7) rfl (by decide) ?_
          refine j_loc (ls' := [(0, vR 86), (1, vI b), (2, vI p), (3, vI i), (4, vI (l + 1))]) rfl ?_
          have hc : ¬ mi N 92 ((12 * b) + l).toNat = (if p > 0 then 1 else 0) := by rw [← hs.mi 92]; split <;> omega
          rw [if_neg hc] at hE
          exact ih (l + 1) p i N M hfr hRN hs (by omega) (by omega) hp0 hp4 hi0 hi1 hE

def FT_tickOf (m : AM) (b p i : Int) : AM :=
  if p ≠ 0 then
    if (mi (si (FX12_kill m b p) 112 b.toNat (mi (FX12_kill m b p) 86 39)) 86 35) < 0 then
      (si (si (si (si (si (FX12_kill m b p) 112 b.toNat (mi (FX12_kill m b p) 86 39)) 86 35 (mi (si (FX12_kill m b p) 112 b.toNat (mi (FX12_kill m b p) 86 39)) 86 39)) 86 36 b) 86 37 i) 86 38 p)
    else
      (si (FX12_kill m b p) 112 b.toNat (mi (FX12_kill m b p) 86 39))
  else
    m

set_option maxRecDepth 20000 in
set_option maxHeartbeats 4000000 in
theorem lp_tickOf_81 {G : QW} {m : AM} (hS : St m) (hI : IM m) {b p i : Int} {Rp : Option Vl → AM → Prop} (hb0 : 0 ≤ b) (hb5 : b ≤ 5) (hp0 : 0 ≤ p) (hp4 : p ≤ 4) (hi0 : 0 ≤ i) (hi1 : i ≤ 11) (hfin : Rp none (FT_tickOf m b p i)) : qJ G mX12_tickOf { frames := 3, cells := 0, slots := 0, locals := 60 * 3 } (qF G Rp 0 0) 81 [(0, vR 86), (1, vI b), (2, vI p), (3, vI i)] [] m 0 0 := by
  refine j_iload_n rfl rfl ?_
  refine j_if_ne (tgt := 86) rfl (by decide) (by omega) (by omega) (fun hb82_1 => ?_) (fun hb82_1 => ?_)
  · skip
    refine j_aload_n rfl rfl ?_
    refine j_iload_n rfl rfl ?_
    refine j_iload_n rfl rfl ?_
    refine j_callV (ci := 12) rfl okX12_kill c_X12_349 (ct_X12_kill hS hI (by omega) (by omega) (by omega) (by omega) hb0 hb5) rfl rfl (hS.lt (by decide)) (hS.k (by decide) (by decide)) (by decide) rfl (Nat.le_of_ble_eq_true rfl) (by decide) (by decide) ?_
    rintro vq mq ⟨e1, e2⟩
    rw [e1, e2]
    clear e1 e2
    simp only [Option.toList_some, Option.toList_none, List.cons_append, List.nil_append]
    refine j_aload_n rfl rfl ?_
    refine j_getR (q := 112) rfl f_X12_87 rfl (hS.lt (by decide)) (hS.k (by decide) (by decide)) (hS.r (by decide)) ?_
    refine j_iload_n rfl rfl ?_
    refine j_aload_n rfl rfl ?_
    refine j_getI rfl f_X12_322 rfl (hS.lt (by decide)) (hS.k (by decide) (by decide)) ?_
    have u98_1 := mi_rng (FX12_kill m b p) 86 39
    refine j_iast (n := 6) rfl (hS.lt (by decide)) (hS.k (by decide) (by decide)) (hS.n (by decide) (by decide)) (by omega) (by omega) (by first | decide | omega) ?_
    refine j_aload_n rfl rfl ?_
    refine j_getI rfl f_X12_352 rfl (hS.lt (by decide)) (hS.k (by decide) (by decide)) ?_
    have u103_1 := mi_rng (si (FX12_kill m b p) 112 b.toNat (mi (FX12_kill m b p) 86 39)) 86 35
    refine j_if_lt (tgt := 110) rfl (by decide) (by omega) (by omega) (fun hb106_1 => ?_) (fun hb106_1 => ?_)
    · skip
      refine j_aload_n rfl rfl ?_
      refine j_aload_n rfl rfl ?_
      refine j_getI rfl f_X12_322 rfl (hS.lt (by decide)) (hS.k (by decide) (by decide)) ?_
      have u112_1 := mi_rng (si (FX12_kill m b p) 112 b.toNat (mi (FX12_kill m b p) 86 39)) 86 39
      refine j_putI rfl f_X12_352 rfl (hS.lt (by decide)) (hS.k (by decide) (by decide)) ?_
      refine j_aload_n rfl rfl ?_
      refine j_iload_n rfl rfl ?_
      refine j_putI rfl f_X12_355 rfl (hS.lt (by decide)) (hS.k (by decide) (by decide)) ?_
      refine j_aload_n rfl rfl ?_
      refine j_iload_n rfl rfl ?_
      refine j_putI rfl f_X12_358 rfl (hS.lt (by decide)) (hS.k (by decide) (by decide)) ?_
      refine j_aload_n rfl rfl ?_
      refine j_iload_n rfl rfl ?_
      refine j_putI rfl f_X12_361 rfl (hS.lt (by decide)) (hS.k (by decide) (by decide)) ?_
      refine j_vret rfl rfl ?_ rfl (Nat.le_refl _)
      unfold FT_tickOf at hfin
      rw [if_pos hb82_1, if_pos hb106_1] at hfin
      exact hfin
    · skip
      refine j_vret rfl rfl ?_ rfl (Nat.le_refl _)
      unfold FT_tickOf at hfin
      rw [if_pos hb82_1, if_neg hb106_1] at hfin
      exact hfin
  · skip
    refine j_vret rfl rfl ?_ rfl (Nat.le_refl _)
    unfold FT_tickOf at hfin
    rw [if_neg (not_not_intro hb82_1)] at hfin
    exact hfin

theorem SameP.kill {m M : AM} (h : SameP m M) (b y : Int) : SameP (FX12_kill m b y) (FX12_kill M b y) := by
  obtain ⟨L, rfl⟩ := h.ex
  exact ⟨rfl, rfl, h.2.2⟩

theorem tail_same {m M : AM} (h : SameP m M) (b p i : Int) : SameP (FT_tickOf m b p i) (FT_tickOf M b p i) := by
  have K := h.kill b p
  have A := K.si 112 b.toNat (mi (FX12_kill m b p) 86 39)
  unfold FT_tickOf
  rw [K.mi 86 39, A.mi 86 35, A.mi 86 39]
  split
  · split
    · exact (((A.si _ _ _).si _ _ _).si _ _ _).si _ _ _
    · exact A
  · exact h
/-- one tick of a box at the reference -/
def tkM (m : AM) (b : Int) : AM := FT_tickOf (tkL b (mi m 91 b.toNat).toNat 0 0 0 m).2.2 b (tkL b (mi m 91 b.toNat).toNat 0 0 0 m).1 (tkL b (mi m 91 b.toNat).toNat 0 0 0 m).2.1

set_option maxRecDepth 20000 in
theorem ct_X12_tickOf {G : QW} {m : AM} {b : Int} (hRF : RF m) (hb0 : 0 ≤ b) (hb5 : b ≤ 5) (hLK : ∀ j, 0 ≤ j → j < mi m 91 b.toNat → LK m b ((12 * b) + j)) : qM G mX12_tickOf 3 0 0 [vR 86, vI b] m (fun r m' => r = none ∧ SameP (tkM m b) m') := by
  refine qM.intro okX12_tickOf (Nat.le_of_ble_eq_true rfl) ?_
  have h91 := hRF.2.1.a 91 0 12 (by decide) b.toNat
  refine j_iconst rfl ?_
  refine j_istore_n rfl (by decide) ?_
  refine j_iconst rfl ?_
  refine j_istore_n rfl (by decide) ?_
  refine j_iconst rfl ?_
  refine j_istore rfl (by decide) ?_
  refine j_loc (ls' := [(0, vR 86), (1, vI b), (2, vI 0), (3, vI 0), (4, vI 0)]) rfl ?_
  exact lp_tickOf_7 (E := tkL b (mi m 91 b.toNat).toNat 0 0 0 m) hb0 hb5 (by omega) hLK (fun M hs hR h0 h4 h5 h6 => lp_tickOf_81 (hs.RF hR).1 (hs.RF hR).2.1 hb0 hb5 h0 h4 h5 h6 ⟨rfl, tail_same hs _ _ _⟩) _ 0 0 0 m m (Fr.rf m) hRF (SameP.rf m) (by omega) (by omega) (by omega) (by omega) (by omega) (by omega) rfl

theorem kill_mi (m : AM) (b y : Int) {o : Nat} (h : o ≠ 107) (h2 : o ≠ 108) (h3 : o ≠ 111) (j : Nat) : mi (FX12_kill m b y) o j = mi m o j := by
  unfold FX12_kill
  rw [mi_fil, if_neg (fun q => h2 q.1), mi_fil, if_neg (fun q => h q.1), mi_si_ne _ _ (fun q => h3 q.1)]
theorem Fr.kill {m N : AM} (h : Fr m N) (b y : Int) : Fr m (FX12_kill N b y) := fun p hp i =>
  (kill_mi N b y (fun e => absurd (e ▸ hp) (by decide)) (fun e => absurd (e ▸ hp) (by decide)) (fun e => absurd (e ▸ hp) (by decide)) i).trans (h p hp i)
theorem RF.kill {m : AM} (h : RF m) (b y : Int) : RF (FX12_kill m b y) := by
  obtain ⟨a, b', c, d, e, f, g, i, w⟩ := h
  have n := fun (o : Nat) h h2 h3 j => kill_mi m b y (o := o) h h2 h3 j
  refine ⟨a, ⟨fun q hq => ?_, fun q hq j => ?_, fun j hj => ?_⟩, fun j => ?_, fun j => ?_, fun j => ?_, fun j => ?_, ?_, ?_, fun j => ?_⟩
  · rw [n q.1 ((by decide : ∀ q ∈ imS, q.1 ≠ 107) q hq) ((by decide : ∀ q ∈ imS, q.1 ≠ 108) q hq) ((by decide : ∀ q ∈ imS, q.1 ≠ 111) q hq)]
    exact b'.1 q hq
  · rw [n q.1 ((by decide : ∀ q ∈ imA, q.1 ≠ 107) q hq) ((by decide : ∀ q ∈ imA, q.1 ≠ 108) q hq) ((by decide : ∀ q ∈ imA, q.1 ≠ 111) q hq)]
    exact b'.2.1 q hq j
  · rw [n 139 (by decide) (by decide) (by decide), n 86 (by decide) (by decide) (by decide), n 0 (by decide) (by decide) (by decide), n (68 + 3 * j) (by omega) (by omega) (by omega)]
    exact b'.2.2 j hj
  · rw [n 110 (by decide) (by decide) (by decide)]; exact c j
  · rw [n 106 (by decide) (by decide) (by decide)]; exact d j
  · rw [n 109 (by decide) (by decide) (by decide)]; exact e j
  · rw [n 114 (by decide) (by decide) (by decide)]; exact f j
  · rw [n 86 (by decide) (by decide) (by decide)]; exact g
  · rw [n 86 (by decide) (by decide) (by decide)]; exact i
  · rw [n 89 (by decide) (by decide) (by decide)]; exact w j


/-! the reference's ticks are the boxes' ticks -/
theorem wM_fr {m N : AM} (h : FR m N) : wM N = wM m := by
  refine wM_rows (fun o ho j => h.cell ?_ ?_) (h.cell (by decide) (by decide)) (h.cell (by decide) (by decide)) (h.cell (by decide) (by decide))
  · exact (by decide : ∀ o ∈ ([87, 88, 89, 91, 92, 93, 94, 95, 96, 97, 98, 99] : List Nat), ¬ (106 ≤ o ∧ o ≤ 114)) o ho
  · exact fun q => (by decide : ∀ o ∈ ([87, 88, 89, 91, 92, 93, 94, 95, 96, 97, 98, 99] : List Nat), o ≠ 86) o ho q.1
/-- what the lines of the reference stand on -/
def LKA (m : AM) : Prop := ∀ b j, 0 ≤ b → b < mi m 86 1 → 0 ≤ j → j < mi m 91 b.toNat → LK m b ((12 * b) + j)
theorem JM.cg {M : AM} {S : ZS} (h : JM M S) {b p : Int} (hb : 0 ≤ b ∧ b ≤ 5) (hp : 0 ≤ p ∧ p ≤ 4) : JM (cgM M b p) (zwCg b p S) ∧ mi (cgM M b p) 86 40 = p := by
  obtain ⟨h1, h2, h3, h4, h5, h6, h7, h8⟩ := h
  unfold cgM zwCg
  by_cases c : p > 0
  · rw [if_pos c, if_pos c]
    have e : ∀ o j, o ≠ 113 → ¬ (o = 86 ∧ j = 40) → mi (si (si M 86 40 p) 113 b.toNat (mi M 113 b.toNat + 1)) o j = mi M o j := fun o j a1 a2 => by
      rw [mi_si_ne _ _ (fun q => a1 q.1), mi_si_ne _ _ a2]
    refine ⟨⟨fun j hj => ?_, fun j hj => ?_, fun b' p hb' hp => ?_, fun j hj => ?_, fun j hj => ?_, fun j hj => ?_, ?_, fun q => ?_⟩, ?_⟩
    · rw [e _ _ (by decide) (by omega)]; exact h1 j hj
    · rw [e _ _ (by decide) (by omega)]; exact h2 j hj
    · rw [e _ _ (by decide) (by omega)]; exact h3 b' p hb' hp
    · rw [e _ _ (by decide) (by omega)]; exact h4 j hj
    · rw [e _ _ (by decide) (by omega)]; exact h5 j hj
    · have := zu_row (N := si M 86 40 p) (c := 113) (k := b.toNat) (v := mi M 113 b.toNat + 1) (n := 6) (f := S.cm) (fun j hj => by rw [mi_si_ne _ _ (by omega)]; exact h6 j hj) j hj
      rw [this, h6 b.toNat (by omega)]
    · rw [e _ _ (by decide) (by decide)]; exact h7
    · rw [e _ _ (by decide) (by decide), e _ _ (by decide) (by decide), e _ _ (by decide) (by decide)]; exact h8 q
    · rw [mi_si_ne _ _ (by omega), mi_si_same _ _ _ (by omega) (by omega)]
  · rw [if_neg c, if_neg c]
    have e : ∀ o j, ¬ (o = 86 ∧ j = 40) → mi (si M 86 40 p) o j = mi M o j := fun o j a2 => mi_si_ne _ _ a2
    refine ⟨⟨fun j hj => ?_, fun j hj => ?_, fun b' p hb' hp => ?_, fun j hj => ?_, fun j hj => ?_, fun j hj => ?_, ?_, fun q => ?_⟩, mi_si_same _ _ _ (by omega) (by omega)⟩
    · rw [e _ _ (by omega)]; exact h1 j hj
    · rw [e _ _ (by omega)]; exact h2 j hj
    · rw [e _ _ (by omega)]; exact h3 b' p hb' hp
    · rw [e _ _ (by omega)]; exact h4 j hj
    · rw [e _ _ (by omega)]; exact h5 j hj
    · rw [e _ _ (by omega)]; exact h6 j hj
    · rw [e _ _ (by decide)]; exact h7
    · rw [e _ _ (by decide), e _ _ (by decide), e _ _ (by decide)]; exact h8 q
theorem zwCg_fa (b p : Int) (S : ZS) : (zwCg b p S).fa = S.fa := by unfold zwCg; split <;> rfl
/-- what a box's tick keeps at the reference -/
def TI (m : AM) (N : AM) : Prop := FR m N ∧ Fq m N ∧ F3 m N ∧ Fr m N ∧ RT N
theorem TI.lk {m N : AM} (h : TI m N) (hL : LKA m) : LKA N := fun b j h0 h1 h2 h3 => h.2.2.2.1.prog (hL b j h0 (by rw [← h.2.1 1 (by decide)]; exact h1) h2 (by rw [← h.2.2.2.1 91 (by decide)]; exact h3))
theorem tkL_zw {m : AM} {C : ZC} {b : Int} (hok : (wM m).ok) (hL : LKA m) (hb : 0 ≤ b ∧ b < mi m 86 1) (hC : CM m C) : ∀ (c : Nat) (l p i : Int) (N : AM) (S : ZS), TI m N → JM N S → S.fa b.toNat = 0 → l + c = mi m 91 b.toNat → 0 ≤ l → 0 ≤ p ∧ p ≤ 4 → 0 ≤ i ∧ i ≤ 11 → ((tkL b c l p i N).1 = (zwTk (wM m) C b c l p i S).1 ∧ (tkL b c l p i N).2.1 = (zwTk (wM m) C b c l p i S).2.1) ∧ JM (tkL b c l p i N).2.2 (zwTk (wM m) C b c l p i S).2.2 ∧ TI m (tkL b c l p i N).2.2 ∧ (zwTk (wM m) C b c l p i S).2.2.fa = S.fa ∧ (0 ≤ (tkL b c l p i N).1 ∧ (tkL b c l p i N).1 ≤ 4) ∧ 0 ≤ (tkL b c l p i N).2.1 ∧ (tkL b c l p i N).2.1 ≤ 11 := by
  have hb5 : b ≤ 5 := by
    have := hok.1
    have h1 : mi m 86 1 ≤ 6 := this.2
    omega
  have hokb := hok.2 b hb.1 hb.2
  have hnl : mi m 91 b.toNat ≤ 12 := hokb.1.2
  intro c
  induction c with
  | zero => intro l p i N S hT hJ hfa hl hl0 hp hi; exact ⟨⟨rfl, rfl⟩, hJ, hT, rfl, hp, hi⟩
  | succ c ih =>
    intro l p i N S hT hJ hfa hl hl0 hp hi
    have ec : mi N 92 ((12 * b) + l).toNat = (wM m).ca b l := hT.2.2.2.1 92 (by decide) _
    by_cases hc2 : mi N 92 ((12 * b) + l).toNat = (if p > 0 then 1 else 0)
    · have e : tkL b (c + 1) l p i N = tkL b c (l + 1) (doM (cgM N b p) b l).1 l (doM (cgM N b p) b l).2 := if_pos hc2
      have e2 : zwTk (wM m) C b (c + 1) l p i S = zwTk (wM m) C b c (l + 1) (zwLn (wM m) C p b l (zwCg b p S)).1 l (zwLn (wM m) C p b l (zwCg b p S)).2 := if_pos (by rw [← ec]; exact hc2)
      rw [e, e2]
      obtain ⟨t1, t2, t3, t4, t5⟩ := hT
      have T2 : TI m (cgM N b p) := ⟨t1.cg b p, t2.cg b p, t3.cg b p, t4.cg b p, t5.cg b hp.1 (by omega)⟩
      obtain ⟨j2, e40⟩ := hJ.cg (b := b) ⟨hb.1, hb5⟩ hp
      have eW : wM (cgM N b p) = wM m := wM_fr T2.1
      have hlk := T2.lk hL b l hb.1 (by rw [T2.2.1 1 (by decide)]; exact hb.2) hl0 (by rw [T2.2.2.2.1 91 (by decide)]; omega)
      have hd := doM_zw (M := cgM N b p) (C := C) (S := zwCg b p S) (b := b) (l := l) (by rw [eW]; exact hokb) (by rw [eW]; exact ⟨hl0, by show l < mi m 91 b.toNat; omega⟩) hlk T2.2.2.2.2 (hC.of T2.2.2.1 T2.2.1) j2 ⟨hb.1, hb5⟩ (by rw [zwCg_fa]; exact hfa)
      rw [eW, e40] at hd
      have T3 : TI m (doM (cgM N b p) b l).2 := ⟨T2.1.line b l, T2.2.1.line b l, T2.2.2.1.line b l, T2.2.2.2.1.line b l, T2.2.2.2.2.line hlk⟩
      have hr := doM_r (cgM N b p) b l
      have q := ih (l + 1) (doM (cgM N b p) b l).1 l (doM (cgM N b p) b l).2 (zwLn (wM m) C p b l (zwCg b p S)).2 T3 hd.2 (by rw [zwLn_fa, zwCg_fa]; exact hfa) (by omega) (by omega) hr ⟨hl0, by omega⟩
      rw [← hd.1]
      refine ⟨q.1, q.2.1, q.2.2.1, ?_, q.2.2.2.2⟩
      rw [q.2.2.2.1, zwLn_fa, zwCg_fa]
    · have e : tkL b (c + 1) l p i N = tkL b c (l + 1) p i N := if_neg hc2
      have e2 : zwTk (wM m) C b (c + 1) l p i S = zwTk (wM m) C b c (l + 1) p i S := if_neg (by rw [← ec]; exact hc2)
      rw [e, e2]
      exact ih (l + 1) p i N S hT hJ hfa (by omega) (by omega) hp hi
theorem JM.kill {M : AM} {S : ZS} (h : JM M S) {b y : Int} (hb : 0 ≤ b ∧ b ≤ 5) (hy : 0 < y ∧ y ≤ 10) : JM (FX12_kill M b y) (zwKill b y S) := by
  obtain ⟨h1, h2, h3, h4, h5, h6, h7, h8⟩ := h
  have z0 : (zi 0).toInt = 0 := by decide
  have zy : (zi y).toInt = y := zi_toInt (by omega) (by omega)
  have e : ∀ o j, o ≠ 107 → o ≠ 108 → o ≠ 111 → mi (FX12_kill M b y) o j = mi M o j := fun o j a1 a2 a3 => kill_mi M b y a1 a2 a3 j
  refine ⟨fun j hj => ?_, fun j hj => ?_, fun b' p hb' hp => ?_, fun j hj => ?_, fun j hj => ?_, fun j hj => ?_, ?_, fun q => ?_⟩
  · rw [e _ _ (by decide) (by decide) (by decide)]; exact h1 j hj
  · unfold FX12_kill
    rw [mi_fil, if_neg (fun q => absurd q.1 (by decide)), mi_fil, z0]
    show _ = if 4 * b ≤ (j : Int) ∧ (j : Int) < 4 * b + 4 then 0 else S.po j
    by_cases c : 4 * b ≤ (j : Int) ∧ (j : Int) < 4 * b + 4
    · rw [if_pos ⟨rfl, c⟩, if_pos c]
    · rw [if_neg (fun q => c q.2), if_neg c, mi_si_ne _ _ (by omega)]
      exact h2 j hj
  · unfold FX12_kill
    rw [mi_fil, zy]
    show _ = zu S.fa b.toNat y b'
    unfold zu
    by_cases c : b' = b.toNat
    · rw [if_pos ⟨rfl, by omega, by omega⟩, if_pos c]
    · rw [if_neg (by omega), if_neg c, mi_fil, if_neg (fun q => absurd q.1 (by decide)), mi_si_ne _ _ (by omega)]
      exact h3 b' p hb' hp
  · unfold FX12_kill
    rw [mi_fil, if_neg (fun q => absurd q.1 (by decide)), mi_fil, if_neg (fun q => absurd q.1 (by decide)), mi_si]
    show _ = if zu S.fa b.toNat y j ≠ 0 then 1 else 0
    unfold zu
    by_cases c : j = b.toNat
    · rw [if_pos ⟨rfl, c⟩, if_pos c, if_pos (by omega)]
      decide
    · rw [if_neg (fun q => c q.2), if_neg c]
      exact h4 j hj
  · rw [e _ _ (by decide) (by decide) (by decide)]; exact h5 j hj
  · rw [e _ _ (by decide) (by decide) (by decide)]; exact h6 j hj
  · rw [e _ _ (by decide) (by decide) (by decide)]; exact h7
  · rw [e _ _ (by decide) (by decide) (by decide), e _ _ (by decide) (by decide) (by decide), e _ _ (by decide) (by decide) (by decide)]; exact h8 q
theorem tail_zw {M : AM} {S : ZS} (h : JM M S) {b p i t : Int} (hb : 0 ≤ b ∧ b ≤ 5) (hp : 0 ≤ p ∧ p ≤ 4) (hi : 0 ≤ i ∧ i ≤ 11) (ht : mi M 86 39 = t) (ht2 : 0 ≤ t ∧ t ≤ 200) : JM (FT_tickOf M b p i) (if p = 0 then S else zwFail b t i p S) := by
  unfold FT_tickOf
  by_cases c : p = 0
  · rw [if_neg (by omega), if_pos c]
    exact h
  · rw [if_pos c, if_neg c]
    have e39 : mi (FX12_kill M b p) 86 39 = t := (kill_mi M b p (by decide) (by decide) (by decide) 39).trans ht
    have e35 : mi (si (FX12_kill M b p) 112 b.toNat (mi (FX12_kill M b p) 86 39)) 86 35 = S.fi.1 := by
      rw [mi_si_ne _ _ (fun q => absurd q.1 (by decide)), kill_mi M b p (by decide) (by decide) (by decide)]
      exact h.2.2.2.2.2.2.1
    have e392 : mi (si (FX12_kill M b p) 112 b.toNat (mi (FX12_kill M b p) 86 39)) 86 39 = t := by
      rw [mi_si_ne _ _ (fun q => absurd q.1 (by decide))]
      exact e39
    rw [e35, e392, e39]
    obtain ⟨h1, h2, h3, h4, h5, h6, h7, h8⟩ := h.kill hb (y := p) (by omega)
    have hd : ∀ j : Nat, j < 6 → mi (si (FX12_kill M b p) 112 b.toNat t) 112 j = zu S.da b.toNat t j := fun j hj => by
      have := zu_row (k := b.toNat) (v := t) h5 j hj
      rw [zi_toInt (by omega) (by omega)] at this
      exact this
    have e : ∀ o j, o ≠ 112 → mi (si (FX12_kill M b p) 112 b.toNat t) o j = mi (FX12_kill M b p) o j := fun o j a1 => mi_si_ne _ _ (fun q => a1 q.1)
    by_cases c2 : S.fi.1 < 0
    · rw [if_pos c2]
      have f : ∀ o j, o ≠ 112 → ¬ (o = 86 ∧ 35 ≤ j ∧ j ≤ 38) → mi (si (si (si (si (si (FX12_kill M b p) 112 b.toNat t) 86 35 t) 86 36 b) 86 37 i) 86 38 p) o j = mi (FX12_kill M b p) o j := fun o j a1 a2 => by
        rw [mi_si_ne _ _ (by omega), mi_si_ne _ _ (by omega), mi_si_ne _ _ (by omega), mi_si_ne _ _ (by omega), e _ _ a1]
      have hfi : (zwFail b t i p S).fi = (t, b, i, p) := if_pos c2
      refine ⟨fun j hj => ?_, fun j hj => ?_, fun b' p' hb' hp' => ?_, fun j hj => ?_, fun j hj => ?_, fun j hj => ?_, ?_, fun q => ?_⟩
      · rw [f _ _ (by decide) (by omega)]; exact h1 j hj
      · rw [f _ _ (by decide) (by omega)]; exact h2 j hj
      · rw [f _ _ (by decide) (by omega)]; exact h3 b' p' hb' hp'
      · rw [f _ _ (by decide) (by omega)]; exact h4 j hj
      · rw [mi_si_ne _ _ (by omega), mi_si_ne _ _ (by omega), mi_si_ne _ _ (by omega), mi_si_ne _ _ (by omega)]; exact hd j hj
      · rw [f _ _ (by decide) (by omega)]; exact h6 j hj
      · rw [hfi, mi_si_ne _ _ (by decide), mi_si_ne _ _ (by decide), mi_si_ne _ _ (by decide), mi_si_same _ _ _ (by omega) (by omega)]
      · rw [hfi]
        refine ⟨?_, ?_, ?_⟩
        · rw [mi_si_ne _ _ (by decide), mi_si_ne _ _ (by decide), mi_si_same _ _ _ (by omega) (by omega)]
        · rw [mi_si_ne _ _ (by decide), mi_si_same _ _ _ (by omega) (by omega)]
        · rw [mi_si_same _ _ _ (by omega) (by omega)]
    · rw [if_neg c2]
      have hfi : (zwFail b t i p S).fi = S.fi := if_neg c2
      refine ⟨fun j hj => ?_, fun j hj => ?_, fun b' p' hb' hp' => ?_, fun j hj => ?_, fun j hj => ?_, fun j hj => ?_, ?_, fun q => ?_⟩
      · rw [e _ _ (by decide)]; exact h1 j hj
      · rw [e _ _ (by decide)]; exact h2 j hj
      · rw [e _ _ (by decide)]; exact h3 b' p' hb' hp'
      · rw [e _ _ (by decide)]; exact h4 j hj
      · exact hd j hj
      · rw [e _ _ (by decide)]; exact h6 j hj
      · rw [hfi, e _ _ (by decide)]; exact h7
      · rw [hfi, e _ _ (by decide), e _ _ (by decide), e _ _ (by decide)]; rw [hfi] at q; exact h8 q
theorem tkM_zw {m N : AM} {C : ZC} {S : ZS} {b : Int} (hok : (wM m).ok) (hL : LKA m) (hb : 0 ≤ b ∧ b < mi m 86 1) (hC : CM m C) (hT : TI m N) (hJ : JM N S) (hfa : S.fa b.toNat = 0) (ht : 0 ≤ C.t ∧ C.t ≤ 200) : JM (tkM N b) (zwBx (wM m) C b S) := by
  have hb5 : b ≤ 5 := by
    have h1 : mi m 86 1 ≤ 6 := hok.1.2
    omega
  have hnl := (hok.2 b hb.1 hb.2).1
  have hnl2 : 0 ≤ mi m 91 b.toNat := hnl.1
  have e91 : mi N 91 b.toNat = mi m 91 b.toNat := hT.2.2.2.1 91 (by decide) _
  obtain ⟨⟨q1, q2⟩, q3, q4, q5, q6, q7⟩ := tkL_zw hok hL hb hC (mi m 91 b.toNat).toNat 0 0 0 N S hT hJ hfa (by omega) (by decide) (by decide) (by decide)
  have h39 : mi (tkL b (mi m 91 b.toNat).toNat 0 0 0 N).2.2 86 39 = C.t := (q4.2.1 39 (by decide)).trans hC.2.2.2
  unfold tkM
  rw [e91]
  have q := tail_zw q3 (b := b) (p := (tkL b (mi m 91 b.toNat).toNat 0 0 0 N).1) (i := (tkL b (mi m 91 b.toNat).toNat 0 0 0 N).2.1) (t := C.t) ⟨hb.1, hb5⟩ q6 q7 h39 ht
  rw [q1, q2] at q ⊢
  exact q
/-- boxes that rest -/
theorem taL_zwA {m : AM} {C : ZC} {rest : Int} (hok : (wM m).ok) (hL : LKA m) (hf : 0 ≤ mi m 86 45 ∧ mi m 86 45 ≤ 10) (hC : CM m C) (ht : 0 ≤ C.t ∧ C.t ≤ 200) (hk : mi m 86 43 < 0 ∨ C.t < mi m 86 44) (hr : rest = if C.t ≥ mi m 86 47 then mi m 86 46 else -1) : ∀ (c : Nat) (b : Int) (N : AM) (S : ZS), TI m N → JM N S → b + c = mi m 86 1 → 0 ≤ b → JM (taL c b N) (zwAl (wM m) C rest c b S) := by
  have h6 : mi m 86 1 ≤ 6 := hok.1.2
  intro c
  induction c with
  | zero => intro b N S hT hJ hb hb0; exact hJ
  | succ c ih =>
    intro b N S hT hJ hb hb0
    have hLN := hT.lk hL
    have eK : bxK N b = N := by
      unfold bxK
      rw [hT.2.1 43 (by decide), hT.2.1 39 (by decide), hT.2.1 44 (by decide), hC.2.2.2]
      exact if_neg (by omega)
    have hkp := bxT_keep hT.2.2.2.2 (by rw [hT.2.1 45 (by decide)]; exact hf) (b := b) (fun j h0 h1 => hLN b j hb0 (by rw [hT.2.1 1 (by decide)]; omega) h0 h1)
    have T2 : TI m (bxT N b) := ⟨hT.1.boxT b, hT.2.1.trans hkp.2.2, hT.2.2.1.boxT b, hT.2.2.2.1.trans hkp.2.1, hkp.1⟩
    refine ih (b + 1) (bxT N b) (zwGo (wM m) C rest b S) T2 ?_ (by omega) (by omega)
    have e111 := hJ.2.2.2.1 b.toNat (by omega)
    unfold bxT zwGo
    rw [eK, hT.2.1 46 (by decide), hT.2.1 39 (by decide), hT.2.1 47 (by decide), hC.2.2.2, e111]
    by_cases c1 : S.fa b.toNat = 0
    · rw [if_neg (show ¬ S.fa b.toNat ≠ 0 by omega)]
      by_cases c2 : b = mi m 86 46 ∧ C.t ≥ mi m 86 47
      · rw [if_pos (Or.inr c2), if_neg (by rw [hr, if_pos c2.2]; omega)]
        exact hJ
      · rw [if_neg (by omega), if_pos ⟨by rw [hr]; split <;> omega, c1⟩]
        exact tkM_zw hok hL ⟨hb0, by omega⟩ hC hT hJ c1 ht
    · rw [if_pos (show S.fa b.toNat ≠ 0 from c1), if_pos (Or.inl (by decide)), if_neg (fun q => c1 q.2)]
      exact hJ
/-- a box dies; the others don't see it in this tick -/
theorem zwLn_kill (W : ZW) (C : ZC) (e b l b0 y : Int) (S : ZS) (hb : 0 ≤ b ∧ b ≠ b0) (h0 : 0 ≤ b0) (ht : W.tg b l ≤ 13) : zwLn W C e b l (zwKill b0 y S) = ((zwLn W C e b l S).1, zwKill b0 y (zwLn W C e b l S).2) := by
  have hP : ∀ (v : Int) (T : ZS), zwPut W b l v (zwKill b0 y T) = zwKill b0 y (zwPut W b l v T) := by
    intro v T
    unfold zwPut
    by_cases c : W.tg b l ≥ 10
    · rw [if_pos c, if_pos c]
      have e1 : zu (zw4 T.po b0) (4 * b + W.tg b l - 10).toNat v = zw4 (zu T.po (4 * b + W.tg b l - 10).toNat v) b0 := by
        funext j
        unfold zu zw4
        dsimp only
        by_cases c1 : j = (4 * b + W.tg b l - 10).toNat
        · rw [if_pos c1, if_neg (by omega), if_pos c1]
        · rw [if_neg c1, if_neg c1]
      show (T.1, zu (zw4 T.po b0) (4 * b + W.tg b l - 10).toNat v, zu T.fa b0.toNat y, T.2.2.2) = (T.1, zw4 (zu T.po (4 * b + W.tg b l - 10).toNat v) b0, zu T.fa b0.toNat y, T.2.2.2)
      rw [e1]
    · rw [if_neg c, if_neg c]
      rfl
  have hM : ∀ T : ZS, zwMis b l (zwKill b0 y T) = zwKill b0 y (zwMis b l T) := fun _ => rfl
  have hD : ∀ v, zwLand W b l v (zwKill b0 y S) = ((zwLand W b l v S).1, zwKill b0 y (zwLand W b l v S).2) := by
    intro v
    unfold zwLand
    rw [hM, hP, hP]
    repeat' split
    all_goals rfl
  have hE : ∀ fr to, zwE W C (zwKill b0 y S).sl e b fr to = zwE W C S.sl e b fr to := fun _ _ => rfl
  have hB : zwB W C e b l (zwKill b0 y S) = ((zwB W C e b l S).1, zwKill b0 y (zwB W C e b l S).2) := by
    unfold zwB
    rw [hE, hD]
    split <;> rfl
  unfold zwLn
  rw [hE, hB]
  repeat' split
  all_goals rfl
theorem zwTk_kill {W : ZW} {C : ZC} {b b0 y n : Int} (hb : 0 ≤ b ∧ b ≠ b0) (h0 : 0 ≤ b0) (ht : ∀ l, 0 ≤ l → l < n → W.tg b l ≤ 13) : ∀ (c : Nat) (l p i : Int) (S : ZS), 0 ≤ l → l + c = n → zwTk W C b c l p i (zwKill b0 y S) = ((zwTk W C b c l p i S).1, (zwTk W C b c l p i S).2.1, zwKill b0 y (zwTk W C b c l p i S).2.2) := by
  intro c
  induction c with
  | zero => intro l p i S h1 h2; rfl
  | succ c ih =>
    intro l p i S h1 h2
    have hcg : zwCg b p (zwKill b0 y S) = zwKill b0 y (zwCg b p S) := by
      unfold zwCg
      split <;> rfl
    by_cases hc : W.ca b l = (if p > 0 then 1 else 0)
    · have e1 : zwTk W C b (c + 1) l p i (zwKill b0 y S) = zwTk W C b c (l + 1) (zwLn W C p b l (zwCg b p (zwKill b0 y S))).1 l (zwLn W C p b l (zwCg b p (zwKill b0 y S))).2 := if_pos hc
      have e2 : zwTk W C b (c + 1) l p i S = zwTk W C b c (l + 1) (zwLn W C p b l (zwCg b p S)).1 l (zwLn W C p b l (zwCg b p S)).2 := if_pos hc
      rw [e1, e2, hcg, zwLn_kill W C p b l b0 y _ hb h0 (ht l h1 (by omega))]
      exact ih _ _ _ _ (by omega) (by omega)
    · have e1 : zwTk W C b (c + 1) l p i (zwKill b0 y S) = zwTk W C b c (l + 1) p i (zwKill b0 y S) := if_neg hc
      have e2 : zwTk W C b (c + 1) l p i S = zwTk W C b c (l + 1) p i S := if_neg hc
      rw [e1, e2]
      exact ih _ _ _ _ (by omega) (by omega)
theorem zwGo_kill {W : ZW} {C : ZC} {b b0 y : Int} (hok : W.okB b) (hb : 0 ≤ b ∧ b ≠ b0) (h0 : 0 ≤ b0) (S : ZS) : zwGo W C b0 b (zwKill b0 y S) = zwKill b0 y (zwGo W C b0 b S) := by
  have q := zwTk_kill (W := W) (C := C) (b := b) (b0 := b0) (y := y) (n := W.nl b) hb h0 (fun l h1 h2 => (hok.2.1 l h1 h2).2.2.2.1.2.1) (W.nl b).toNat 0 0 0 S (by decide) (by have := hok.1.1; omega)
  have efa : (zwKill b0 y S).fa b.toNat = S.fa b.toNat := zu_ne S.fa y (by omega)
  unfold zwGo
  rw [efa]
  by_cases c : b ≠ b0 ∧ S.fa b.toNat = 0
  · rw [if_pos c, if_pos c]
    unfold zwBx
    rw [q]
    by_cases c2 : (zwTk W C b (W.nl b).toNat 0 0 0 S).1 = 0
    · rw [if_pos c2, if_pos c2]
    · rw [if_neg c2, if_neg c2]
      have e4 : ∀ f : Nat → Int, zw4 (zw4 f b0) b = zw4 (zw4 f b) b0 := by
        intro f
        funext j
        unfold zw4
        repeat' split
        all_goals rfl
      have eu : ∀ (f : Nat → Int) (v : Int), zu (zu f b0.toNat y) b.toNat v = zu (zu f b.toNat v) b0.toNat y := by
        intro f v
        funext j
        unfold zu
        by_cases c3 : j = b.toNat
        · rw [if_pos c3, if_neg (by omega), if_pos c3]
        · rw [if_neg c3, if_neg c3]
      unfold zwFail zwKill
      dsimp only
      rw [e4, eu]
  · rw [if_neg c, if_neg c]
theorem zwAl_kill {W : ZW} {C : ZC} {b0 y : Int} (hok : W.ok) (h0 : 0 ≤ b0) : ∀ (c : Nat) (b : Int) (S : ZS), b0 < b → b + c = W.nb → zwAl W C b0 c b (zwKill b0 y S) = zwKill b0 y (zwAl W C b0 c b S) := by
  intro c
  induction c with
  | zero => intro b S h1 h2; rfl
  | succ c ih =>
    intro b S h1 h2
    show zwAl W C b0 c (b + 1) (zwGo W C b0 b (zwKill b0 y S)) = zwKill b0 y (zwAl W C b0 c (b + 1) (zwGo W C b0 b S))
    rw [zwGo_kill (hok.2 b (by omega) (by omega)) ⟨by omega, by omega⟩ h0]
    exact ih _ _ (by omega) (by omega)
theorem taL_zwB {m : AM} {C : ZC} {b0 y : Int} (hok : (wM m).ok) (hL : LKA m) (hC : CM m C) (ht : 0 ≤ C.t ∧ C.t ≤ 200) (h43 : mi m 86 43 = b0) (h44 : mi m 86 44 ≤ C.t) (h45 : mi m 86 45 = y) (hy : 0 < y ∧ y ≤ 10) (h46 : mi m 86 46 < 0) (h0 : 0 ≤ b0 ∧ b0 < mi m 86 1) : ∀ (c : Nat) (b : Int) (N : AM) (S : ZS), TI m N → (b ≤ b0 → JM N S) → (b0 < b → JM N (zwKill b0 y S)) → b + c = mi m 86 1 → 0 ≤ b → (b0 < b + c → JM (taL c b N) (zwKill b0 y (zwAl (wM m) C b0 c b S))) := by
  have h6 : mi m 86 1 ≤ 6 := hok.1.2
  intro c
  induction c with
  | zero => intro b N S hT hJ hK hb hb0 h; exact hK (by omega)
  | succ c ih =>
    intro b N S hT hJ hK hb hb0 h
    have hLN := hT.lk hL
    have hokb := hok.2 b hb0 (by show b < mi m 86 1; omega)
    have hkp := bxT_keep hT.2.2.2.2 (by rw [hT.2.1 45 (by decide), h45]; omega) (b := b) (fun j h0 h1 => hLN b j hb0 (by rw [hT.2.1 1 (by decide)]; omega) h0 h1)
    have T2 : TI m (bxT N b) := ⟨hT.1.boxT b, hT.2.1.trans hkp.2.2, hT.2.2.1.boxT b, hT.2.2.2.1.trans hkp.2.1, hkp.1⟩
    have eKn : b ≠ b0 → bxK N b = N := by
      intro q
      unfold bxK
      rw [hT.2.1 43 (by decide), h43]
      exact if_neg (fun z => q z.1)
    have key : ∀ T : ZS, b ≠ b0 → JM N T → JM (bxT N b) (zwGo (wM m) C b0 b T) := by
      intro T hne hJT
      have e111 := hJT.2.2.2.1 b.toNat (by omega)
      unfold bxT zwGo
      rw [eKn hne, hT.2.1 46 (by decide), e111]
      by_cases c1 : T.fa b.toNat = 0
      · rw [if_neg (show ¬ T.fa b.toNat ≠ 0 by omega), if_neg (by omega), if_pos ⟨hne, c1⟩]
        exact tkM_zw hok hL ⟨hb0, by omega⟩ hC hT hJT c1 ht
      · rw [if_pos (show T.fa b.toNat ≠ 0 from c1), if_pos (Or.inl (by decide)), if_neg (fun q => c1 q.2)]
        exact hJT
    refine ih (b + 1) (bxT N b) (zwGo (wM m) C b0 b S) T2 (fun q => ?_) (fun q => ?_) (by omega) (by omega) (by omega)
    · exact key S (by omega) (hJ (by omega))
    · by_cases e : b = b0
      · subst e
        have hJ0 := hJ (Int.le_refl _)
        have eK : bxK N b = FX12_kill N b y := by
          unfold bxK
          rw [hT.2.1 43 (by decide), hT.2.1 39 (by decide), hT.2.1 44 (by decide), hC.2.2.2, hT.2.1 45 (by decide), h45]
          exact if_pos ⟨h43.symm, h44⟩
        have eg : zwGo (wM m) C b b S = S := if_neg (fun z => z.1 rfl)
        have hJK := hJ0.kill (b := b) (y := y) ⟨hb0, by omega⟩ hy
        rw [eg]
        unfold bxT
        rw [eK]
        have e111 := hJK.2.2.2.1 b.toNat (by omega)
        rw [e111, if_pos (Or.inl (by rw [if_pos (by show zu S.fa b.toNat y b.toNat ≠ 0; rw [zu_same]; omega)]; decide))]
        exact hJK
      · have hz := key (zwKill b0 y S) e (hK (by omega))
        rw [zwGo_kill hokb ⟨hb0, e⟩ h0.1] at hz
        exact hz

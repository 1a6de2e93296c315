/-! the reference's runs are the boxes' runs -/
theorem JM.rows {M N : AM} {S : ZS} (h : JM M S) (e : ∀ o ∈ ([106, 107, 108, 111, 112, 113] : List Nat), ∀ j : Nat, mi N o j = mi M o j) (e2 : ∀ k : Nat, 35 ≤ k → k ≤ 38 → mi N 86 k = mi M 86 k) : JM N S := by
  obtain ⟨h1, h2, h3, h4, h5, h6, h7, h8⟩ := h
  refine ⟨fun j hj => ?_, fun j hj => ?_, fun b' p hb' hp => ?_, fun j hj => ?_, fun j hj => ?_, fun j hj => ?_, ?_, fun q => ?_⟩
  · rw [e 106 (by decide)]; exact h1 j hj
  · rw [e 107 (by decide)]; exact h2 j hj
  · rw [e 108 (by decide)]; exact h3 b' p hb' hp
  · rw [e 111 (by decide)]; exact h4 j hj
  · rw [e 112 (by decide)]; exact h5 j hj
  · rw [e 113 (by decide)]; exact h6 j hj
  · rw [e2 35 (by decide) (by decide)]; exact h7
  · rw [e2 36 (by decide) (by decide), e2 37 (by decide) (by decide), e2 38 (by decide) (by decide)]; exact h8 q
theorem cpA_zw {m : AM} {S : ZS} {fe : Nat → Int} {t : Int} (hJ : JM m S) (h114 : ∀ j : Nat, j < 3 → mi m 114 j = fe j) (h39 : mi m 86 39 = t) : CM (cpA m) (S.po, S.fa, fe, t) ∧ JM (cpA m) S := by
  have e : ∀ o j, o ≠ 109 → o ≠ 110 → mi (cpA m) o j = mi m o j := fun o j a b => cpA_mi m a b j
  refine ⟨⟨fun j hj => ?_, fun b p hb hp => ?_, fun j hj => ?_, ?_⟩, ?_⟩
  · unfold cpA
    rw [mi_cpr, if_neg (fun q => absurd q.1 (by decide)), mi_cpr, if_pos ⟨rfl, by omega⟩]
    exact hJ.2.1 j hj
  · unfold cpA
    rw [mi_cpr, if_pos ⟨rfl, by omega⟩, mi_cpr, if_neg (fun q => absurd q.1 (by decide))]
    exact hJ.2.2.1 b p hb hp
  · rw [e _ _ (by decide) (by decide)]; exact h114 j hj
  · rw [e _ _ (by decide) (by decide)]; exact h39
  · exact hJ.rows (fun o ho j => e o j ((by decide : ∀ o ∈ ([106, 107, 108, 111, 112, 113] : List Nat), o ≠ 109) o ho) ((by decide : ∀ o ∈ ([106, 107, 108, 111, 112, 113] : List Nat), o ≠ 110) o ho)) (fun k _ _ => e _ _ (by decide) (by decide))
theorem cpA_lk {m : AM} (hL : LKA m) : LKA (cpA m) := fun b j h0 h1 h2 h3 => (cpA_Fr m).prog (hL b j h0 (by rw [← cpA_Fq m 1 (by decide)]; exact h1) h2 (by rw [← cpA_Fr m 91 (by decide)]; exact h3))
theorem cpA_fr (m : AM) : FR m (cpA m) := by
  unfold cpA
  exact ((FR.rf m).copy (by omega) _ _).copy (by omega) _ _
theorem TI.rf {m : AM} (h : RT m) : TI m m := ⟨FR.rf m, Fq.rf m, F3.rf m, Fr.rf m, h⟩
/-- a tick of all boxes, of which one may rest -/
theorem taM_zwA {m : AM} {S : ZS} {fe : Nat → Int} {t rest : Int} (hok : (wM m).ok) (hL : LKA m) (hR : RT m) (hf : 0 ≤ mi m 86 45 ∧ mi m 86 45 ≤ 10) (hJ : JM m S) (h114 : ∀ j : Nat, j < 3 → mi m 114 j = fe j) (h39 : mi m 86 39 = t) (ht : 0 ≤ t ∧ t ≤ 200) (hk : mi m 86 43 < 0 ∨ t < mi m 86 44) (hr : rest = if t ≥ mi m 86 47 then mi m 86 46 else -1) : JM (taM m) (zwTick (wM m) fe t rest S) := by
  obtain ⟨hC, hJ2⟩ := cpA_zw hJ h114 h39
  have eW := wM_fr (cpA_fr m)
  have q := taL_zwA (m := cpA m) (C := (S.po, S.fa, fe, t)) (rest := rest) (by rw [eW]; exact hok) (cpA_lk hL) (by rw [cpA_Fq m 45 (by decide)]; exact hf) hC ht (by rw [cpA_Fq m 43 (by decide), cpA_Fq m 44 (by decide)]; exact hk) (by rw [cpA_Fq m 47 (by decide), cpA_Fq m 46 (by decide)]; exact hr) (mi m 86 1).toNat 0 (cpA m) S (TI.rf hR.ahead) hJ2 (by rw [cpA_Fq m 1 (by decide)]; have : 0 ≤ mi m 86 1 := hok.1.1; omega) (by decide)
  rw [eW] at q
  exact q
/-- a tick of all boxes, of which one dies -/
theorem taM_zwB {m : AM} {S : ZS} {fe : Nat → Int} {t b0 y : Int} (hok : (wM m).ok) (hL : LKA m) (hR : RT m) (hJ : JM m S) (h114 : ∀ j : Nat, j < 3 → mi m 114 j = fe j) (h39 : mi m 86 39 = t) (ht : 0 ≤ t ∧ t ≤ 200) (h43 : mi m 86 43 = b0) (h44 : mi m 86 44 ≤ t) (h45 : mi m 86 45 = y) (hy : 0 < y ∧ y ≤ 10) (h46 : mi m 86 46 < 0) (h0 : 0 ≤ b0 ∧ b0 < mi m 86 1) : JM (taM m) (zwKill b0 y (zwTick (wM m) fe t b0 S)) := by
  obtain ⟨hC, hJ2⟩ := cpA_zw hJ h114 h39
  have eW := wM_fr (cpA_fr m)
  have hnb : 0 ≤ mi m 86 1 := hok.1.1
  have q := taL_zwB (m := cpA m) (C := (S.po, S.fa, fe, t)) (b0 := b0) (y := y) (by rw [eW]; exact hok) (cpA_lk hL) hC ht (by rw [cpA_Fq m 43 (by decide)]; exact h43) (by rw [cpA_Fq m 44 (by decide)]; exact h44) (by rw [cpA_Fq m 45 (by decide)]; exact h45) hy (by rw [cpA_Fq m 46 (by decide)]; exact h46) (by rw [cpA_Fq m 1 (by decide)]; exact h0) (mi m 86 1).toNat 0 (cpA m) S (TI.rf hR.ahead) (fun _ => hJ2) (fun q => by omega) (by rw [cpA_Fq m 1 (by decide)]; omega) (by decide) (by omega)
  rw [eW] at q
  exact q
/-- what a flight of the reference gives at a tick -/
def feM (m : AM) (f : Int) : Int → Nat → Int := fun t k => FX12_feltAt m ((3 * f) + k) t
theorem feltM_fr {m N : AM} (h : FR m N) (k t : Int) : FX12_feltAt N k t = FX12_feltAt m k t := by
  have e : ∀ o ∈ ([101, 102, 103, 104, 105] : List Nat), mi N o = mi m o := fun o ho => funext (fun j => h.cell ((by decide : ∀ o ∈ ([101, 102, 103, 104, 105] : List Nat), ¬ (106 ≤ o ∧ o ≤ 114)) o ho) (fun q => (by decide : ∀ o ∈ ([101, 102, 103, 104, 105] : List Nat), o ≠ 86) o ho q.1))
  unfold FX12_feltAt FX12_heldBy
  simp only [e 101 (by decide), e 102 (by decide), e 103 (by decide), e 104 (by decide), e 105 (by decide)]
theorem feM_fr {m N : AM} (h : FR m N) (f : Int) : feM N f = feM m f := by
  funext t k
  exact feltM_fr h _ _
theorem feL_zw {f : Int} : ∀ (c : Nat) (k : Int) (N : AM), RT N → 0 ≤ k → (∀ o j, o ≠ 114 → mi (feL f c k N) o j = mi N o j) ∧ ∀ j : Nat, mi (feL f c k N) 114 j = if k ≤ (j : Int) ∧ (j : Int) < k + c then FX12_feltAt N ((3 * f) + j) (mi N 86 39) else mi N 114 j := by
  intro c
  induction c with
  | zero => intro k N hR hk; exact ⟨fun _ _ _ => rfl, fun j => by rw [if_neg (by omega)]; rfl⟩
  | succ c ih =>
    intro k N hR hk
    have g := feltAt_rng hR.1.2.1 ((3 * f) + k) (mi N 86 39)
    have R2 : RT (si N 114 k.toNat (FX12_feltAt N ((3 * f) + k) (mi N 86 39))) := hR.other (by decide) (by decide) (hR.1.felt _ g.1 g.2)
    obtain ⟨i1, i2⟩ := ih (k + 1) (si N 114 k.toNat (FX12_feltAt N ((3 * f) + k) (mi N 86 39))) R2 (by omega)
    have eF : FR N (si N 114 k.toNat (FX12_feltAt N ((3 * f) + k) (mi N 86 39))) := (FR.rf N).one (by omega) _
    refine ⟨fun o j ho => (i1 o j ho).trans (mi_si_ne _ _ (fun q => ho q.1)), fun j => ?_⟩
    refine (i2 j).trans ?_
    rw [feltM_fr eF, mi_si_ne N _ (show ¬ (86 = 114 ∧ 39 = k.toNat) by omega), mi_si]
    by_cases c1 : k + 1 ≤ (j : Int) ∧ (j : Int) < k + 1 + c
    · rw [if_pos c1, if_pos (by omega)]
    · rw [if_neg c1]
      by_cases c2 : j = k.toNat
      · rw [if_pos ⟨rfl, c2⟩, if_pos (by omega), zi_toInt (by omega) (by omega), show (j : Int) = k by omega]
      · rw [if_neg (fun q => c2 q.2), if_neg (by omega)]
/-- the reference's ticks from t on, each of which is a step -/
theorem roL_zw {m : AM} {f n : Int} {F : Int → Nat → Int} {step : Int → ZS → ZS} (hL : LKA m) (hFe : ∀ t, 0 ≤ t → t < n → ∀ j : Nat, j < 3 → FX12_feltAt m ((3 * f) + j) t = F t j) (hf : 0 ≤ mi m 86 45 ∧ mi m 86 45 ≤ 10) (hn : n ≤ 200) (hstep : ∀ (t : Int) (N : AM) (S : ZS), FR m N → RT N → JM N S → LKA N → mi N 86 39 = t → 0 ≤ t → t < n → (∀ j : Nat, j < 3 → mi N 114 j = F t j) → JM (taM N) (step t S)) : ∀ (c : Nat) (t : Int) (N : AM) (S : ZS), FR m N → RT N → JM N S → mi N 86 39 = t → t + c = n → 0 ≤ t → JM (roL f c N) (zwRun step (fun _ => false) c t S) := by
  have lk : ∀ N, FR m N → LKA N := fun N h b j h0 h1 h2 h3 => h.fr.prog (hL b j h0 (by rw [← h.cell (o := 86) (j := 1) (by decide) (by decide)]; exact h1) h2 (by rw [← h.fr 91 (by decide)]; exact h3))
  intro c
  induction c with
  | zero => intro t N S hF hR hJ h39 htn ht; exact hJ
  | succ c ih =>
    intro t N S hF hR hJ h39 htn ht
    obtain ⟨k1, k2, k3⟩ := feL_keep f 3 0 N hR
    obtain ⟨f1, f2⟩ := feL_zw (f := f) 3 0 N hR (Int.le_refl _)
    have hF2 : FR m (feL f 3 0 N) := hF.felts f 3 0
    have hJ2 : JM (feL f 3 0 N) S := hJ.rows (fun o ho j => f1 o j ((by decide : ∀ o ∈ ([106, 107, 108, 111, 112, 113] : List Nat), o ≠ 114) o ho)) (fun k _ _ => f1 _ _ (by decide))
    have hT := hstep t (feL f 3 0 N) S hF2 k1 hJ2 (lk _ hF2) (by rw [k3]; exact h39) ht (by omega) (fun j hj => by
      rw [f2, if_pos (by omega), feltM_fr hF, h39]
      exact hFe t ht (by omega) j hj)
    have ka := k1.all (by rw [hF2.cell (o := 86) (j := 45) (by decide) (by decide)]; exact hf) (lk _ hF2)
    have e39 : mi (roT f N) 86 39 = t := (ka.2.2 39 (by decide)).trans ((k3 39).trans h39)
    have hF3 : FR m (roT f N) := hF2.all
    refine ih (t + 1) (si (roT f N) 86 39 (mi (roT f N) 86 39 + 1)) (step t S) (hF3.one (by omega) _) ?_ ?_ ?_ (by omega) (by omega)
    · rw [e39]
      exact ka.1.other (by decide) (by decide) (ka.1.1.time (by omega) (by omega))
    · exact hT.rows (fun o ho j => mi_si_ne _ _ (fun q => (by decide : ∀ o ∈ ([106, 107, 108, 111, 112, 113] : List Nat), o ≠ 86) o ho q.1)) (fun k _ _ => mi_si_ne _ _ (by omega))
    · rw [e39, mi_si_same _ _ _ (by omega) (by omega)]
theorem begin_zw {m : AM} : JM (si (FX12_begin m) 86 39 0) zwZero ∧ mi (si (FX12_begin m) 86 39 0) 86 39 = 0 := by
  have z0 : (zi 0).toInt = 0 := by decide
  have z1 : (zi (-1)).toInt = -1 := by decide
  have e : ∀ o j, o ≠ 86 → mi (si (FX12_begin m) 86 39 0) o j = mi (fil (fil (fil (fil (fil (fil m 106 0 48 0) 107 0 24 0) 108 0 24 0) 111 0 6 0) 112 0 6 (-1)) 113 0 6 0) o j := fun o j ho => by
    unfold FX12_begin
    rw [mi_si_ne _ _ (fun q => ho q.1), mi_si_ne _ _ (fun q => ho q.1)]
  refine ⟨⟨fun j hj => ?_, fun j hj => ?_, fun b' p hb' hp => ?_, fun j hj => ?_, fun j hj => ?_, fun j hj => ?_, ?_, fun q => absurd q (by decide)⟩, mi_si_same _ _ _ (by decide) (by decide)⟩
  · rw [e _ _ (by decide), mi_fil, if_neg (fun q => absurd q.1 (by decide)), mi_fil, if_neg (fun q => absurd q.1 (by decide)), mi_fil, if_neg (fun q => absurd q.1 (by decide)), mi_fil, if_neg (fun q => absurd q.1 (by decide)), mi_fil, if_neg (fun q => absurd q.1 (by decide)), mi_fil, if_pos ⟨rfl, by omega, by omega⟩, z0]; rfl
  · rw [e _ _ (by decide), mi_fil, if_neg (fun q => absurd q.1 (by decide)), mi_fil, if_neg (fun q => absurd q.1 (by decide)), mi_fil, if_neg (fun q => absurd q.1 (by decide)), mi_fil, if_neg (fun q => absurd q.1 (by decide)), mi_fil, if_pos ⟨rfl, by omega, by omega⟩, z0]; rfl
  · rw [e _ _ (by decide), mi_fil, if_neg (fun q => absurd q.1 (by decide)), mi_fil, if_neg (fun q => absurd q.1 (by decide)), mi_fil, if_neg (fun q => absurd q.1 (by decide)), mi_fil, if_pos ⟨rfl, by omega, by omega⟩, z0]; rfl
  · rw [e _ _ (by decide), mi_fil, if_neg (fun q => absurd q.1 (by decide)), mi_fil, if_neg (fun q => absurd q.1 (by decide)), mi_fil, if_pos ⟨rfl, by omega, by omega⟩, z0]; rfl
  · rw [e _ _ (by decide), mi_fil, if_neg (fun q => absurd q.1 (by decide)), mi_fil, if_pos ⟨rfl, by omega, by omega⟩, z1]; rfl
  · rw [e _ _ (by decide), mi_fil, if_pos ⟨rfl, by omega, by omega⟩, z0]; rfl
  · unfold FX12_begin
    rw [mi_si_ne _ _ (by decide), mi_si_same _ _ _ (by decide) (by decide)]
    rfl
/-- c ticks of all boxes -/
def zwFull (W : ZW) (F : Int → Nat → Int) (n : Int) : ZS := zwRun (fun t S => zwTick W (F t) t (-1) S) (fun _ => false) n.toNat 0 zwZero
theorem roM_gen {m : AM} {f n : Int} {F : Int → Nat → Int} {step : Int → ZS → ZS} (h : RI m) (hFe : ∀ t, 0 ≤ t → t < n → ∀ j : Nat, j < 3 → FX12_feltAt m ((3 * f) + j) t = F t j) (hn0 : 0 ≤ n) (hn : n ≤ 200) (hstep : ∀ (t : Int) (N : AM) (S : ZS), FR m N → RT N → JM N S → LKA N → mi N 86 39 = t → 0 ≤ t → t < n → (∀ j : Nat, j < 3 → mi N 114 j = F t j) → JM (taM N) (step t S)) : JM (roM m f n) (zwRun step (fun _ => false) n.toNat 0 zwZero) := by
  have hB := begin_keep h.1
  have hF : FR m (si (FX12_begin m) 86 39 0) := ((FR.rf m).begins).one (by omega) _
  have hz := begin_zw (m := m)
  unfold roM
  exact roL_zw (m := m) h.2.2.2 hFe h.2.2.1 hn hstep n.toNat 0 _ zwZero hF (hB.1.other (by decide) (by decide) (hB.1.1.time (by decide) (by decide))) hz.1 hz.2 (by omega) (by decide)
/-- a run of the reference in which none is told to fail or to stop -/
theorem roM_zwA {m : AM} {F : Int → Nat → Int} {f n : Int} (h : RI m) (hB : HB m) (hFe : ∀ t, 0 ≤ t → t < n → ∀ j : Nat, j < 3 → FX12_feltAt m ((3 * f) + j) t = F t j) (hn0 : 0 ≤ n) (hn : n ≤ 200) (h43 : mi m 86 43 < 0) (h46 : mi m 86 46 < 0) : JM (roM m f n) (zwFull (wM m) (F) n) := by
  refine roM_gen h hFe hn0 hn (fun t N S hF hR hJ hLN h39 ht htn hfe => ?_)
  have c := fun k hk1 => hF.cell (o := 86) (j := k) (by decide) hk1
  have eW := wM_fr hF
  have q := taM_zwA (m := N) (fe := F t) (t := t) (rest := if t ≥ mi N 86 47 then mi N 86 46 else -1) (by rw [eW]; exact wM_ok h hB) hLN hR (by rw [c 45 (by decide)]; exact h.2.2.1) hJ hfe h39 (by omega) (Or.inl (by rw [c 43 (by decide)]; exact h43)) rfl
  rw [eW] at q
  have er : ∀ b, 0 ≤ b → zwGo (wM m) (S.po, S.fa, F t, t) (if t ≥ mi N 86 47 then mi N 86 46 else -1) b = zwGo (wM m) (S.po, S.fa, F t, t) (-1) b := by
    intro b hb
    funext T
    unfold zwGo
    have e1 : b ≠ (if t ≥ mi N 86 47 then mi N 86 46 else -1) := by
      rw [c 46 (by decide)]
      split <;> omega
    have e2 : b ≠ -1 := by omega
    by_cases c1 : T.fa b.toNat = 0
    · rw [if_pos ⟨e1, c1⟩, if_pos ⟨e2, c1⟩]
    · rw [if_neg (fun z => c1 z.2), if_neg (fun z => c1 z.2)]
  have key : ∀ (k : Nat) (b : Int) (T : ZS), 0 ≤ b → zwAl (wM m) (S.po, S.fa, F t, t) (if t ≥ mi N 86 47 then mi N 86 46 else -1) k b T = zwAl (wM m) (S.po, S.fa, F t, t) (-1) k b T := by
    intro k
    induction k with
    | zero => intro b T hb; rfl
    | succ k ih =>
      intro b T hb
      show zwAl _ _ _ k (b + 1) (zwGo _ _ _ b T) = zwAl _ _ _ k (b + 1) (zwGo _ _ _ b T)
      rw [er b hb]
      exact ih _ _ (by omega)
  unfold zwTick at q ⊢
  rw [key _ _ _ (Int.le_refl _)] at q
  exact q
/-- one in which a box rests from a tick on -/
theorem roM_zwS {m : AM} {F : Int → Nat → Int} {f n b0 fr : Int} (h : RI m) (hB : HB m) (hFe : ∀ t, 0 ≤ t → t < n → ∀ j : Nat, j < 3 → FX12_feltAt m ((3 * f) + j) t = F t j) (hn0 : 0 ≤ n) (hn : n ≤ 200) (h43 : mi m 86 43 < 0) (h46 : mi m 86 46 = b0) (h47 : mi m 86 47 = fr) : JM (roM m f n) (zwFlyX (wM m) (F) n b0 fr 0) := by
  refine roM_gen h hFe hn0 hn (fun t N S hF hR hJ hLN h39 ht htn hfe => ?_)
  have c := fun k hk1 => hF.cell (o := 86) (j := k) (by decide) hk1
  have eW := wM_fr hF
  have q := taM_zwA (m := N) (fe := F t) (t := t) (rest := if t < fr then -1 else b0) (by rw [eW]; exact wM_ok h hB) hLN hR (by rw [c 45 (by decide)]; exact h.2.2.1) hJ hfe h39 (by omega) (Or.inl (by rw [c 43 (by decide)]; exact h43)) (by rw [c 46 (by decide), c 47 (by decide), h46, h47]; by_cases z : t < fr; rw [if_pos z, if_neg (by omega)]; rw [if_neg z, if_pos (by omega)])
  rw [eW] at q
  unfold zwStep
  rw [if_neg (fun z => z.2 rfl)]
  exact q
/-- one in which a box fails from a tick on -/
theorem roM_zwF {m : AM} {F : Int → Nat → Int} {f n b0 fr y : Int} (h : RI m) (hB : HB m) (hFe : ∀ t, 0 ≤ t → t < n → ∀ j : Nat, j < 3 → FX12_feltAt m ((3 * f) + j) t = F t j) (hn0 : 0 ≤ n) (hn : n ≤ 200) (h43 : mi m 86 43 = b0) (h44 : mi m 86 44 = fr) (h45 : mi m 86 45 = y) (hy : 0 < y ∧ y ≤ 10) (h46 : mi m 86 46 < 0) (h0 : 0 ≤ b0 ∧ b0 < mi m 86 1) : JM (roM m f n) (zwFlyX (wM m) (F) n b0 fr y) := by
  refine roM_gen h hFe hn0 hn (fun t N S hF hR hJ hLN h39 ht htn hfe => ?_)
  have c := fun k hk1 => hF.cell (o := 86) (j := k) (by decide) hk1
  have eW := wM_fr hF
  unfold zwStep
  by_cases ct : t ≥ fr
  · have q := taM_zwB (m := N) (fe := F t) (t := t) (b0 := b0) (y := y) (by rw [eW]; exact wM_ok h hB) hLN hR hJ hfe h39 (by omega) (by rw [c 43 (by decide)]; exact h43) (by rw [c 44 (by decide), h44]; exact ct) (by rw [c 45 (by decide)]; exact h45) hy (by rw [c 46 (by decide)]; exact h46) (by rw [c 1 (by decide)]; exact h0)
    rw [eW] at q
    rw [if_pos ⟨ct, by omega⟩, if_neg (by omega)]
    exact q
  · have q := taM_zwA (m := N) (fe := F t) (t := t) (rest := if t ≥ mi N 86 47 then mi N 86 46 else -1) (by rw [eW]; exact wM_ok h hB) hLN hR (by rw [c 45 (by decide)]; exact h.2.2.1) hJ hfe h39 (by omega) (Or.inr (by rw [c 44 (by decide), h44]; omega)) rfl
    rw [eW] at q
    have er : ∀ b, 0 ≤ b → zwGo (wM m) (S.po, S.fa, F t, t) (if t ≥ mi N 86 47 then mi N 86 46 else -1) b = zwGo (wM m) (S.po, S.fa, F t, t) (-1) b := by
      intro b hb
      funext T
      unfold zwGo
      have e1 : b ≠ (if t ≥ mi N 86 47 then mi N 86 46 else -1) := by
        rw [c 46 (by decide)]
        split <;> omega
      have e2 : b ≠ -1 := by omega
      by_cases c1 : T.fa b.toNat = 0
      · rw [if_pos ⟨e1, c1⟩, if_pos ⟨e2, c1⟩]
      · rw [if_neg (fun z => c1 z.2), if_neg (fun z => c1 z.2)]
    have key : ∀ (k : Nat) (b : Int) (T : ZS), 0 ≤ b → zwAl (wM m) (S.po, S.fa, F t, t) (if t ≥ mi N 86 47 then mi N 86 46 else -1) k b T = zwAl (wM m) (S.po, S.fa, F t, t) (-1) k b T := by
      intro k
      induction k with
      | zero => intro b T hb; rfl
      | succ k ih =>
        intro b T hb
        show zwAl _ _ _ k (b + 1) (zwGo _ _ _ b T) = zwAl _ _ _ k (b + 1) (zwGo _ _ _ b T)
        rw [er b hb]
        exact ih _ _ (by omega)
    rw [if_neg (fun z => ct z.1), if_pos (by omega)]
    unfold zwTick at q ⊢
    rw [key _ _ _ (Int.le_refl _)] at q
    exact q

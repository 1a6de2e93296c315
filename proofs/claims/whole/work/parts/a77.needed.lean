/-! a box that none reads: whether it goes or stands, the others go the same -/
/-- two states that differ in box b alone -/
def zRl (b : Int) (S T : ZS) : Prop := (∀ j : Nat, ((j / 8 : Nat) : Int) ≠ b → S.sl j = T.sl j) ∧ (∀ j : Nat, ((j / 4 : Nat) : Int) ≠ b → S.po j = T.po j) ∧ ∀ j : Nat, (j : Int) ≠ b → S.fa j = T.fa j
theorem zRl.rf (b : Int) (S : ZS) : zRl b S S := ⟨fun _ _ => rfl, fun _ _ => rfl, fun _ _ => rfl⟩
theorem zRl.sy {b : Int} {S T : ZS} (h : zRl b S T) : zRl b T S := ⟨fun j hj => (h.1 j hj).symm, fun j hj => (h.2.1 j hj).symm, fun j hj => (h.2.2 j hj).symm⟩
theorem zRl.tr {b : Int} {S T U : ZS} (h : zRl b S T) (k : zRl b T U) : zRl b S U := ⟨fun j hj => (h.1 j hj).trans (k.1 j hj), fun j hj => (h.2.1 j hj).trans (k.2.1 j hj), fun j hj => (h.2.2 j hj).trans (k.2.2 j hj)⟩
theorem zu_cg2 {f g : Nat → Int} {j i : Nat} {v : Int} (h : f i = g i) : zu f j v i = zu g j v i := by
  unfold zu
  split
  · rfl
  · exact h
/-- a line's target lies in its box -/
theorem zPut_fr {W : ZW} {b l v : Int} {S : ZS} (hb : 0 ≤ b) (ht : 0 ≤ W.tg b l ∧ W.tg b l ≤ 13 ∧ (W.tg b l < 10 → W.tg b l ≤ 7)) : zRl b (zwPut W b l v S) S := by
  unfold zwPut
  by_cases c : W.tg b l ≥ 10
  · rw [if_pos c]
    refine ⟨fun _ _ => rfl, fun j hj => ?_, fun _ _ => rfl⟩
    show zu S.po _ v j = S.po j
    unfold zu
    rw [if_neg (by omega)]
  · rw [if_neg c]
    refine ⟨fun j hj => ?_, fun _ _ => rfl, fun _ _ => rfl⟩
    show zu S.sl _ v j = S.sl j
    unfold zu
    rw [if_neg (by omega)]
theorem zMis_fr {b b' l : Int} {S : ZS} : zRl b (zwMis b' l S) S := ⟨fun _ _ => rfl, fun _ _ => rfl, fun _ _ => rfl⟩
theorem zLand_fr {W : ZW} {b l v : Int} {S : ZS} (hb : 0 ≤ b) (ht : 0 ≤ W.tg b l ∧ W.tg b l ≤ 13 ∧ (W.tg b l < 10 → W.tg b l ≤ 7)) : zRl b (zwLand W b l v S).2 S := by
  unfold zwLand
  split
  · split
    · exact (zPut_fr hb ht).tr zMis_fr
    · exact zMis_fr
  · exact zPut_fr hb ht
theorem zB_fr {W : ZW} {C : ZC} {e b l : Int} {S : ZS} (hb : 0 ≤ b) (ht : 0 ≤ W.tg b l ∧ W.tg b l ≤ 13 ∧ (W.tg b l < 10 → W.tg b l ≤ 7)) : zRl b (zwB W C e b l S).2 S := by
  unfold zwB
  split
  · exact zRl.rf b S
  · exact zLand_fr hb ht
theorem zLn_fr {W : ZW} {C : ZC} {e b l : Int} {S : ZS} (hb : 0 ≤ b) (ht : 0 ≤ W.tg b l ∧ W.tg b l ≤ 13 ∧ (W.tg b l < 10 → W.tg b l ≤ 7)) : zRl b (zwLn W C e b l S).2 S := by
  unfold zwLn
  split
  · split
    · exact zRl.rf b S
    · split
      · exact zRl.rf b S
      · exact zB_fr hb ht
  · exact zB_fr hb ht
theorem zCg_fr {b b' p : Int} {S : ZS} : zRl b (zwCg b' p S) S := by
  unfold zwCg
  split
  · exact ⟨fun _ _ => rfl, fun _ _ => rfl, fun _ _ => rfl⟩
  · exact zRl.rf b S
theorem zTk_fr {W : ZW} {C : ZC} {b : Int} (hB : W.okB b) (hb : 0 ≤ b) : ∀ (c : Nat) (l p i : Int) (S : ZS), 0 ≤ l → l + c = W.nl b → zRl b (zwTk W C b c l p i S).2.2 S := by
  intro c
  induction c with
  | zero => intro l p i S _ _; exact zRl.rf b S
  | succ c ih =>
    intro l p i S hl hc
    by_cases z : W.ca b l = (if p > 0 then 1 else 0)
    · rw [show zwTk W C b (c + 1) l p i S = zwTk W C b c (l + 1) (zwLn W C p b l (zwCg b p S)).1 l (zwLn W C p b l (zwCg b p S)).2 from if_pos z]
      exact (ih _ _ _ _ (by omega) (by omega)).tr ((zLn_fr hb (hB.2.1 l hl (by omega)).2.2.2.1).tr zCg_fr)
    · rw [show zwTk W C b (c + 1) l p i S = zwTk W C b c (l + 1) p i S from if_neg z]
      exact ih _ _ _ _ (by omega) (by omega)
theorem zFail_fr {b t l y : Int} {S : ZS} (hb : 0 ≤ b) : zRl b (zwFail b t l y S) S := by
  unfold zwFail
  refine ⟨fun _ _ => rfl, fun j hj => ?_, fun j hj => ?_⟩
  · show zw4 S.po b j = S.po j
    unfold zw4
    rw [if_neg (by omega)]
  · show zu S.fa _ y j = S.fa j
    unfold zu
    rw [if_neg (by omega)]
theorem zBx_fr {W : ZW} {C : ZC} {b : Int} {S : ZS} (hB : W.okB b) (hb : 0 ≤ b) : zRl b (zwBx W C b S) S := by
  have q := zTk_fr (C := C) hB hb (W.nl b).toNat 0 0 0 S (by decide) (by have := hB.1.1; omega)
  unfold zwBx
  split
  · exact q
  · exact (zFail_fr hb).tr q
theorem zGo_fr {W : ZW} {C : ZC} {r b : Int} {S : ZS} (hB : W.okB b) (hb : 0 ≤ b) : zRl b (zwGo W C r b S) S := by
  unfold zwGo
  split
  · exact zBx_fr hB hb
  · exact zRl.rf b S
/-- another box's line, from two such states -/
theorem zPut_rl {W : ZW} {b o l v : Int} {S T : ZS} (h : zRl b S T) : zRl b (zwPut W o l v S) (zwPut W o l v T) := by
  unfold zwPut
  split
  · exact ⟨h.1, fun j hj => zu_cg2 (h.2.1 j hj), h.2.2⟩
  · exact ⟨fun j hj => zu_cg2 (h.1 j hj), h.2.1, h.2.2⟩
theorem zMis_rl {b o l : Int} {S T : ZS} (h : zRl b S T) : zRl b (zwMis o l S) (zwMis o l T) := (zMis_fr.tr h).tr zMis_fr.sy
theorem zLand_rl {W : ZW} {b o l v : Int} {S T : ZS} (h : zRl b S T) : (zwLand W o l v S).1 = (zwLand W o l v T).1 ∧ zRl b (zwLand W o l v S).2 (zwLand W o l v T).2 := by
  unfold zwLand
  split
  · split
    · exact ⟨rfl, zPut_rl (zMis_rl h)⟩
    · exact ⟨rfl, zMis_rl h⟩
  · exact ⟨rfl, zPut_rl h⟩
/-- what is read of others -/
def zRC (b : Int) (C D : ZC) : Prop := (∀ j : Nat, ((j / 4 : Nat) : Int) ≠ b → C.po j = D.po j) ∧ (∀ j : Nat, (j : Int) ≠ b → C.fa j = D.fa j) ∧ C.fe = D.fe ∧ C.t = D.t
def zNr (W : ZW) (b : Int) : Prop := ∀ o i : Int, 0 ≤ o → o < W.nb → o ≠ b → 0 ≤ i → i ≤ 3 → ¬ (0 ≤ W.wi o i ∧ W.wi o i / 10 = b)
theorem zIn_rl {W : ZW} {C D : ZC} {b o i : Int} (hC : zRC b C D) (hB : W.okB o) (hn : ¬ (0 ≤ W.wi o i ∧ W.wi o i / 10 = b)) (hi : 0 ≤ i ∧ i ≤ 3) : zwIn W C o i = zwIn W D o i := by
  have w := hB.2.2.1 i hi.1 hi.2
  unfold zwIn
  by_cases c : W.wi o i < 0
  · rw [if_pos c, if_pos c]
  · have w2 := w.2.2 (by omega)
    rw [if_neg c, if_neg c, hC.2.1 _ (show (((W.wi o i / 10).toNat : Nat) : Int) ≠ b by omega), hC.1 _ (show (((4 * (W.wi o i / 10) + W.wi o i % 10).toNat / 4 : Nat) : Int) ≠ b by omega)]
theorem zE_rl {W : ZW} {C D : ZC} {sl sl' : Nat → Int} {b o e fr to : Int} (hC : zRC b C D) (hB : W.okB o) (ho : 0 ≤ o ∧ o ≠ b) (hn : ∀ i : Int, 0 ≤ i → i ≤ 3 → ¬ (0 ≤ W.wi o i ∧ W.wi o i / 10 = b)) (hs : ∀ j : Nat, ((j / 8 : Nat) : Int) ≠ b → sl j = sl' j) (hw : sWF (W.cd o) (to - fr).toNat fr 0) : zwE W C sl e o fr to = zwE W D sl' e o fr to := by
  unfold zwE
  have q := eV_cg (cd := W.cd o) (cd' := W.cd o) (rd := zwRd W D sl' e o) (rd' := zwRd W C sl e o) (d := 0) (c := (to - fr).toNat) (k := fr) (fun j _ _ => by rw [Int.add_zero]) (fun w v _ _ h1 h2 h3 => ?_) hw
  · rw [Int.add_zero] at q
    exact q
  · unfold zwRd
    by_cases w0 : w = 0
    · rw [if_pos w0, if_pos w0]
    · rw [if_neg w0, if_neg w0]
      by_cases w1 : w = 1
      · have := h1 w1
        rw [if_pos w1, if_pos w1, hs _ (by omega)]
      · rw [if_neg w1, if_neg w1]
        by_cases w2 : w = 2
        · rw [if_pos w2, if_pos w2, zIn_rl hC hB (hn v (h2 w2).1 (h2 w2).2) (h2 w2)]
        · rw [if_neg w2, if_neg w2, hC.2.2.1, hC.2.2.2]
theorem zB_rl {W : ZW} {C D : ZC} {b o e l : Int} {S T : ZS} (h : zRl b S T) (hC : zRC b C D) (hB : W.okB o) (ho : 0 ≤ o ∧ o ≠ b) (hn : ∀ i : Int, 0 ≤ i → i ≤ 3 → ¬ (0 ≤ W.wi o i ∧ W.wi o i / 10 = b)) (hl : W.okL o l) : (zwB W C e o l S).1 = (zwB W D e o l T).1 ∧ zRl b (zwB W C e o l S).2 (zwB W D e o l T).2 := by
  unfold zwB
  rw [zE_rl (e := e) (sl := S.sl) (sl' := T.sl) hC hB ho hn h.1 hl.2.2.1]
  split
  · exact ⟨rfl, h⟩
  · exact zLand_rl h
theorem zLn_rl {W : ZW} {C D : ZC} {b o e l : Int} {S T : ZS} (h : zRl b S T) (hC : zRC b C D) (hB : W.okB o) (ho : 0 ≤ o ∧ o ≠ b) (hn : ∀ i : Int, 0 ≤ i → i ≤ 3 → ¬ (0 ≤ W.wi o i ∧ W.wi o i / 10 = b)) (hl : W.okL o l) : (zwLn W C e o l S).1 = (zwLn W D e o l T).1 ∧ zRl b (zwLn W C e o l S).2 (zwLn W D e o l T).2 := by
  unfold zwLn
  by_cases c : (W.at3 o l).1 < (W.at3 o l).2.1
  · rw [if_pos c, if_pos c, zE_rl (e := e) (sl := S.sl) (sl' := T.sl) hC hB ho hn h.1 (hl.2.1 c)]
    split
    · exact ⟨rfl, h⟩
    · split
      · exact ⟨rfl, h⟩
      · exact zB_rl h hC hB ho hn hl
  · rw [if_neg c, if_neg c]
    exact zB_rl h hC hB ho hn hl
theorem zCg_rl {b o p : Int} {S T : ZS} (h : zRl b S T) : zRl b (zwCg o p S) (zwCg o p T) := (zCg_fr.tr h).tr zCg_fr.sy
theorem zTk_rl {W : ZW} {C D : ZC} {b o : Int} (hC : zRC b C D) (hB : W.okB o) (ho : 0 ≤ o ∧ o ≠ b) (hn : ∀ i : Int, 0 ≤ i → i ≤ 3 → ¬ (0 ≤ W.wi o i ∧ W.wi o i / 10 = b)) : ∀ (c : Nat) (l p i : Int) (S T : ZS), zRl b S T → 0 ≤ l → l + c = W.nl o → ((zwTk W C o c l p i S).1 = (zwTk W D o c l p i T).1 ∧ (zwTk W C o c l p i S).2.1 = (zwTk W D o c l p i T).2.1) ∧ zRl b (zwTk W C o c l p i S).2.2 (zwTk W D o c l p i T).2.2 := by
  intro c
  induction c with
  | zero => intro l p i S T h _ _; exact ⟨⟨rfl, rfl⟩, h⟩
  | succ c ih =>
    intro l p i S T h hl hc
    by_cases z : W.ca o l = (if p > 0 then 1 else 0)
    · have q := zLn_rl (e := p) (l := l) (zCg_rl (o := o) (p := p) h) hC hB ho hn (hB.2.1 l hl (by omega))
      rw [show zwTk W C o (c + 1) l p i S = zwTk W C o c (l + 1) (zwLn W C p o l (zwCg o p S)).1 l (zwLn W C p o l (zwCg o p S)).2 from if_pos z, show zwTk W D o (c + 1) l p i T = zwTk W D o c (l + 1) (zwLn W D p o l (zwCg o p T)).1 l (zwLn W D p o l (zwCg o p T)).2 from if_pos z, q.1]
      exact ih _ _ _ _ _ q.2 (by omega) (by omega)
    · rw [show zwTk W C o (c + 1) l p i S = zwTk W C o c (l + 1) p i S from if_neg z, show zwTk W D o (c + 1) l p i T = zwTk W D o c (l + 1) p i T from if_neg z]
      exact ih _ _ _ _ _ h (by omega) (by omega)
theorem zBx_rl {W : ZW} {C D : ZC} {b o : Int} {S T : ZS} (h : zRl b S T) (hC : zRC b C D) (hB : W.okB o) (ho : 0 ≤ o ∧ o ≠ b) (hn : ∀ i : Int, 0 ≤ i → i ≤ 3 → ¬ (0 ≤ W.wi o i ∧ W.wi o i / 10 = b)) : zRl b (zwBx W C o S) (zwBx W D o T) := by
  have q := zTk_rl hC hB ho hn (W.nl o).toNat 0 0 0 S T h (by decide) (by have := hB.1.1; omega)
  unfold zwBx
  rw [q.1.1, q.1.2, hC.2.2.2]
  split
  · exact q.2
  · refine ⟨q.2.1, fun j hj => ?_, fun j hj => zu_cg2 (q.2.2.2 j hj)⟩
    show zw4 _ o j = zw4 _ o j
    unfold zw4
    split
    · rfl
    · exact q.2.2.1 j hj
theorem zAl_rl {W : ZW} {C D : ZC} {b r1 r2 : Int} (hW : W.ok) (hN : zNr W b) (hC : zRC b C D) (h1 : r1 = -1 ∨ r1 = b) (h2 : r2 = -1 ∨ r2 = b) : ∀ (c : Nat) (o : Int) (S T : ZS), zRl b S T → 0 ≤ o → o + c = W.nb → zRl b (zwAl W C r1 c o S) (zwAl W D r2 c o T) := by
  intro c
  induction c with
  | zero => intro o S T h _ _; exact h
  | succ c ih =>
    intro o S T h ho hc
    have hB := hW.2 o ho (by omega)
    refine ih (o + 1) _ _ ?_ (by omega) (by omega)
    by_cases z : o = b
    · rw [z] at hB ho ⊢
      exact ((zGo_fr hB ho).tr h).tr (zGo_fr hB ho).sy
    · unfold zwGo
      rw [h.2.2 o.toNat (by omega)]
      by_cases y : T.fa o.toNat = 0
      · rw [if_pos ⟨by omega, y⟩, if_pos ⟨by omega, y⟩]
        exact zBx_rl h hC hB ⟨ho, z⟩ (fun i i0 i1 => hN o i ho (by omega) z i0 i1)
      · rw [if_neg (fun q => y q.2), if_neg (fun q => y q.2)]
        exact h
theorem zTick_rl {W : ZW} {fe : Nat → Int} {t b r1 r2 : Int} {S T : ZS} (hW : W.ok) (hN : zNr W b) (h : zRl b S T) (h1 : r1 = -1 ∨ r1 = b) (h2 : r2 = -1 ∨ r2 = b) : zRl b (zwTick W fe t r1 S) (zwTick W fe t r2 T) := by
  unfold zwTick
  exact zAl_rl (C := (S.po, S.fa, fe, t)) (D := (T.po, T.fa, fe, t)) hW hN ⟨h.2.1, h.2.2, rfl, rfl⟩ h1 h2 _ 0 S T h (by decide) (by have := hW.1.1; omega)
theorem zRun_rl {W : ZW} {F : Int → Nat → Int} {b fr : Int} (hW : W.ok) (hN : zNr W b) : ∀ (c : Nat) (t : Int) (S T : ZS), zRl b S T → zRl b (zwRun (fun t S => zwTick W (F t) t (-1) S) (fun _ => false) c t S) (zwRun (zwStep W F b fr 0) (fun _ => false) c t T) := by
  intro c
  induction c with
  | zero => intro t S T h; exact h
  | succ c ih =>
    intro t S T h
    show zRl b (if false = true then S else _) (if false = true then T else _)
    rw [if_neg (by decide), if_neg (by decide)]
    refine ih _ _ _ ?_
    unfold zwStep
    rw [if_neg (fun q => q.2 rfl)]
    refine zTick_rl hW hN h (Or.inl rfl) ?_
    split
    · exact Or.inl rfl
    · exact Or.inr rfl
/-- none reads it: no other box is ever unlike -/
theorem none_un {W : ZW} {F : Int → Nat → Int} {b fr n : Int} (hW : W.ok) (hN : zNr W b) : ¬ zUn W.nb b (zwFull W F n) (zwFlyX W F n b fr 0) := by
  rintro ⟨o, -, hb, hu⟩
  have q := zRun_rl (F := F) (fr := fr) hW hN n.toNat 0 zwZero zwZero (zRl.rf b _)
  refine hu ⟨q.2.2 o hb, fun r hr => q.1 _ (by rw [show (8 * o + r) / 8 = o by omega]; exact hb), fun p hp => q.2.1 _ (by rw [show (4 * o + p) / 4 = o by omega]; exact hb)⟩
theorem zNd_no {W : ZW} {F : Int → Nat → Int} {b n : Int} (h : ∀ t, ¬ zUn W.nb b (zwFull W F n) (zwFlyX W F n b t 0)) : ∀ (c : Nat) (t : Int), zNd W F b n c t = -2 := by
  intro c
  induction c with
  | zero => intro t; rfl
  | succ c ih =>
    intro t
    rw [zNd_n (h t)]
    exact ih _
theorem rdO_nr {m : AM} (h : QR m) {b : Int} (hr : ¬ rdO m b) : zNr (wN m) b := by
  intro o i h0 h1 hb i0 i1 hw
  have h1 : o < mi m 86 1 := h1
  have K := (h.2.1.2 o h0 h1).1
  refine hr ⟨o, h0, by rw [h.2.1.1]; exact h1, hb, i.toNat, by omega, ?_⟩
  rw [K.2.2.2.2.1 i i0 i1]
  exact hw
/-- the reference's search -/
theorem anL_z {g : Nat → Int} : ∀ n : Nat, anL g n = 0 ↔ ∀ j, j < n → g j = 0
  | 0 => ⟨fun _ j hj => absurd hj (Nat.not_lt_zero j), fun _ => rfl⟩
  | n + 1 => by
    unfold anL
    by_cases z : g n ≠ 0
    · rw [if_pos z]
      exact ⟨fun y => absurd y (by decide), fun y => absurd (y n (by omega)) z⟩
    · rw [if_neg z, anL_z n]
      refine ⟨fun y j hj => ?_, fun y j hj => y j (by omega)⟩
      by_cases w : j = n
      · rw [w]; exact Decidable.byContradiction z
      · exact y j (by omega)
def GN (M : AM) (b : Int) (S : ZS) (N : AM) : Prop := RI N ∧ FQ M N ∧ mi N 86 43 < 0 ∧ mi N 86 46 = b ∧ mi N 86 48 < 0 ∧ JK N S
theorem nd_sem {M : AM} {b f n : Int} (hQ : QR M) (hb : 0 ≤ b ∧ b ≤ 5) (hf : 0 ≤ f ∧ f < mi M 0 17) (hn : 1 ≤ n ∧ n ≤ 200) : ∀ (c : Nat) (t : Int) (N : AM), GN M b (zwFull (wN M) (Fm M f) n) N → t + 1 = c → t ≤ 199 → (ndL b f n c t N).1 = zNd (wN M) (Fm M f) b n c t ∧ RI (ndL b f n c t N).2 ∧ FQ M (ndL b f n c t N).2 := by
  have h1 : mi M 86 1 = (wN M).nb := rfl
  have h16 := hQ.i.s 86 1 0 6 (by decide)
  intro c
  induction c with
  | zero => intro t N g _ _; exact ⟨rfl, g.1, g.2.1⟩
  | succ c ih =>
    intro t N g hc ht
    obtain ⟨g1, g2, g3, g4, g5, g6⟩ := g
    have a1 : RI (si N 86 47 t) := g1.own (k := 47) t (by decide) (by decide)
    have a2 : FQ M (si N 86 47 t) := g2.own (by omega) _
    have v : ∀ k, k ≠ 47 → mi (si N 86 47 t) 86 k = mi N 86 k := fun k hk => mi_si_ne N t (by omega)
    have v47 : mi (si N 86 47 t) 86 47 = t := mi_si_same N _ _ (by omega) (by omega)
    have j := ref_stop (f := f) (n := n) (b := b) (fr := t) hQ a1 a2 (by rw [v 43 (by decide)]; exact g3) (by rw [v 46 (by decide)]; exact g4) v47 (by rw [v 48 (by decide)]; exact g5) hf (by omega) hn.2
    have k := (g6.own 47 t).run f n
    have r : GN M b (zwFull (wN M) (Fm M f) n) (roM (si N 86 47 t) f n) := ⟨a1.run (by omega) hn.2, a2.run f n, by rw [roM_k _ _ _ (by omega), v 43 (by decide)]; exact g3, by rw [roM_k _ _ _ (by omega), v 46 (by decide)]; exact g4, by rw [roM_k _ _ _ (by omega), v 48 (by decide)]; exact g5, k⟩
    have hd : ndL b f n (c + 1) t N = if anL (nuF (roM (si N 86 47 t) f n) b) (mi (roM (si N 86 47 t) f n) 86 1).toNat = 0 then ndL b f n c (t - 1) (roM (si N 86 47 t) f n) else (t, roM (si N 86 47 t) f n) := rfl
    rw [hd]
    generalize roM (si N 86 47 t) f n = L at j k r
    have n1 : mi L 86 1 = mi M 86 1 := r.2.1.cell (by omega) (by omega) (by omega)
    have key : anL (nuF L b) (mi L 86 1).toNat = 0 ↔ ¬ zUn (wN M).nb b (zwFull (wN M) (Fm M f) n) (zwFlyX (wN M) (Fm M f) n b t 0) := by
      rw [anL_z, n1]
      constructor
      · rintro y ⟨o, o1, o2, o3⟩
        have o1 : (o : Int) < mi M 86 1 := o1
        have w := y o (by omega)
        unfold nuF at w
        by_cases z : (o : Int) = b ∨ likeX L o
        · rcases z with z | z
          · exact o2 z
          · exact o3 ((likeX_zw j k (by omega)).mp z)
        · rw [if_neg z] at w
          exact absurd w (by decide)
      · intro y o ho
        unfold nuF
        by_cases z : (o : Int) = b ∨ likeX L o
        · rw [if_pos z]
        · exact absurd ⟨o, show (o : Int) < mi M 86 1 by omega, fun q => z (Or.inl q), fun q => z (Or.inr ((likeX_zw j k (by omega)).mpr q))⟩ y
    by_cases z : zUn (wN M).nb b (zwFull (wN M) (Fm M f) n) (zwFlyX (wN M) (Fm M f) n b t 0)
    · rw [if_neg (fun q => (key.mp q) z), zNd_y z]
      exact ⟨rfl, r.1, r.2.1⟩
    · rw [if_pos (key.mpr z), zNd_n z]
      exact ih _ _ r (by omega) (by omega)
theorem nee_ok {M : AM} {b f n : Int} (hQ : QR M) (hb : 0 ≤ b ∧ b < mi M 86 1) (hf : 0 ≤ f ∧ f < mi M 0 17) (hn : 1 ≤ n ∧ n ≤ 200) : (neeR M b f n).1 = zNd (wN M) (Fm M f) b n n.toNat (n - 1) ∧ RI (neeR M b f n).2 ∧ FQ M (neeR M b f n).2 := by
  have h16 := hQ.i.s 86 1 0 6 (by decide)
  have e : neeR M b f n = ((neE M b f n).1, aiM (neE M b f n).2) := if_pos ⟨hb, by rw [← hQ.2.2.1.1]; exact hf, hn⟩
  rw [e]
  obtain ⟨r1, q1, j1⟩ := ref_K (f := f) (n := n) hQ hf hn
  have k43 := aiM_k M
  have c43 : mi (roM (aiM M) f n) 86 43 < 0 := by rw [roM_k _ _ _ (by omega)]; exact k43.1
  have c48 : mi (roM (aiM M) f n) 86 48 < 0 := by rw [roM_k _ _ _ (by omega)]; exact k43.2.2
  unfold neE
  generalize roM (aiM M) f n = K at r1 q1 j1 c43 c48
  have g : GN M b (zwFull (wN M) (Fm M f) n) (si (FX12_keepRun K) 86 46 b) := by
    refine ⟨r1.keepR.own (k := 46) b (by decide) (by decide), q1.kpR.own (by omega) _, ?_, mi_si_same _ _ _ (by omega) (by omega), ?_, j1.kpR.own _ _⟩
    · rw [mi_si_ne _ _ (by omega), kpR_m (by omega)]; exact c43
    · rw [mi_si_ne _ _ (by omega), kpR_m (by omega)]; exact c48
  have s := nd_sem hQ (by omega) hf hn n.toNat (n - 1) _ g (by omega) (by omega)
  exact ⟨s.1, s.2.1.asIs, s.2.2.asIs⟩
theorem ag_needed {G : QW} {m : AM} {b f n : Int} (h : Inv m) (hb1 : -2147483648 ≤ b) (hb2 : b < 2147483648) (hf1 : -2147483648 ≤ f) (hf2 : f < 2147483648) (hn1 : -2147483648 ≤ n) (hn2 : n < 2147483648) : AG G mX11_needed mX12_needed 6 7 0 0 [vI b, vI f, vI n] m := by
  have e16 : mi m 0 16 = mi m 86 1 := h.1.2.1.1
  have e17 : mi m 0 17 = mi m 86 21 := h.1.2.2.1.1
  refine (cr_needed h.1 hb1 hb2 hf1 hf2 hn1 hn2).mono (fun r N2 q => ?_)
  by_cases c : (0 ≤ b ∧ b < mi m 0 16) ∧ (0 ≤ f ∧ f < mi m 0 17) ∧ 1 ≤ n ∧ n ≤ 200
  · by_cases y : rdO m b
    · obtain ⟨hc, hQ, e2⟩ := (q.1 c).2 y
      refine ⟨_, e2, rfl, hQ.1.1.1.1.1.1, (ct_X12_needed hQ.1.1.1 hb1 hb2 hf1 hf2 hn1 hn2).mono (fun r2 m2 p => ?_)⟩
      have f1 : mi N2 86 1 = mi m 86 1 := hc.2.1 86 1 (by decide) (by decide)
      have f17 : mi N2 0 17 = mi m 0 17 := hc.1.2.2.1 0 17 (by unfold NQ; omega)
      obtain ⟨s1, s2, s3⟩ := nee_ok (b := b) (f := f) (n := n) hQ (by rw [f1, ← e16]; exact c.1) (by rw [f17]; exact c.2.1) c.2.2
      rw [hc.1.wn, Fm_cu h.1 hc c.2.1] at s1
      exact ⟨by rw [p.1, s1], (h.both hc hQ s2 s3).same p.2⟩
    · obtain ⟨e2, e1⟩ := (q.1 c).1 y
      rw [e1]
      refine ⟨_, e2, rfl, h.1.1.1.1.1.1.1, (ct_X12_needed h.1.1.1.1 hb1 hb2 hf1 hf2 hn1 hn2).mono (fun r2 m2 p => ?_)⟩
      obtain ⟨s1, s2, s3⟩ := nee_ok (b := b) (f := f) (n := n) h.1 (by rw [← e16]; exact c.1) c.2.1 c.2.2
      rw [zNd_no (fun t => none_un h.1.wok (rdO_nr h.1 y))] at s1
      exact ⟨by rw [p.1, s1], (h.both (CU.rf m) h.1 s2 s3).same p.2⟩
  · obtain ⟨e2, e1⟩ := q.2 c
    rw [e1]
    refine ⟨_, e2, rfl, h.1.1.1.1.1.1.1, (ct_X12_needed h.1.1.1.1 hb1 hb2 hf1 hf2 hn1 hn2).mono (fun r2 m2 p => ?_)⟩
    have e : neeR m b f n = (-1, m) := if_neg (by rw [← e16, ← e17]; exact c)
    rw [e] at p
    exact ⟨p.1, h.same p.2⟩

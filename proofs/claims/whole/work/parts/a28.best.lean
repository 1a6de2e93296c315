theorem si_comm (m : AM) {o o' : Nat} (k k' : Nat) (v v' : Int) (h : o ≠ o') : si (si m o k v) o' k' v' = si (si m o' k' v') o k v := by
  have e : u2 (u2 m.1 o k v) o' k' v' = u2 (u2 m.1 o' k' v') o k v := by
    funext p j
    show (if p = o' ∧ j = k' then v' else if p = o ∧ j = k then v else m.1 p j) = if p = o ∧ j = k then v else if p = o' ∧ j = k' then v' else m.1 p j
    by_cases c : p = o ∧ j = k
    · rw [if_pos c, if_neg (fun q => h (c.1.symm.trans q.1)), if_pos c]
    · rw [if_neg c, if_neg c]
  show (_, _) = (_, _)
  rw [show u2 (si m o k v).1 o' k' v' = u2 (u2 m.1 o k v) o' k' v' from rfl, e]
  rfl
theorem si_over (m : AM) (o k : Nat) (v v' : Int) : si (si m o k v) o k v' = si m o k v' := by
  have e : u2 (u2 m.1 o k v) o k v' = u2 m.1 o k v' := by
    funext p j
    show (if p = o ∧ j = k then v' else if p = o ∧ j = k then v else m.1 p j) = if p = o ∧ j = k then v' else m.1 p j
    by_cases c : p = o ∧ j = k
    · rw [if_pos c, if_pos c]
    · rw [if_neg c, if_neg c, if_neg c]
  show (_, _) = (_, _)
  rw [show u2 (si m o k v).1 o k v' = u2 (u2 m.1 o k v) o k v' from rfl, e]
  rfl
theorem K0.cu {m N : AM} (h : K0 m) (q : QU m N) : K0 N := by
  have e16 : mi N 0 16 = mi m 0 16 := q.2.2.1 0 16 (by unfold NQ; omega)
  have e17 : mi N 0 17 = mi m 0 17 := q.2.2.1 0 17 (by unfold NQ; omega)
  have eb : ∀ b, bx N b = bx m b := q.bxe
  have ef : ∀ f, fl N f = fl m f := q.fle
  have ep : ∀ b, 0 ≤ b → b < mi m 0 16 → pg N b = pg m b := fun b h0 h1 => q.pge (h.1 b h0 h1).1
  have e15 : mr N 0 15 = mr m 0 15 := q.2.1 0 15 (fun z => absurd z.1 (by decide))
  obtain ⟨h1, h2, h3, h4, h5, z, h6, h7, h8⟩ := h
  unfold K0
  simp only [e16, e17, eb, ef, e15, q.zz]
  refine ⟨fun b b0 b1 => by rw [ep b b0 b1]; exact h1 b b0 b1, fun b c b0 b1 c0 c1 hc => by rw [ep b b0 b1, ep c c0 c1]; exact h2 b c b0 b1 c0 c1 hc, h3, h4, h5, z, h6, h7, fun b b0 b1 => by rw [ep b b0 b1]; exact h8 b b0 b1⟩
/-- the words of box b's program that say which lines are watched -/
def ownC (m : AM) (b : Int) : Int := mi m (pg m b) 8
def freC (m : AM) (b : Int) : Int := z_iand (z_iand (z_ixor (ownC m b) (-1)) ((z_ishl 1 (mi m (pg m b) 6)) - 1)) 255
/-- the world in which a set of lines of box b is watched too -/
def Wst (m : AM) (b s : Int) : ZW := wW (wN m) b (xW (z_ior (ownC m b) s))
/-- a state that came from m by runs with other watches of box b -/
def LB (m N : AM) (b : Int) : Prop := CU m (si N (pg m b) 8 (ownC m b)) ∧ QR (si N (pg m b) 8 (ownC m b))
theorem LB.begins {m : AM} {b : Int} (h : QR m) (hr : -2147483648 ≤ ownC m b ∧ ownC m b < 2147483648) : LB m m b := by
  have e : ∀ c j, mi (si m (pg m b) 8 (ownC m b)) c j = mi m c j := fun c j => by
    rw [mi_si]
    split
    · next q => rw [zi_toInt hr.1 hr.2, q.1, q.2]; rfl
    · rfl
  have q : QU m (si m (pg m b) 8 (ownC m b)) := ⟨rfl, fun _ _ _ => rfl, fun c j _ => e c j, fun _ _ _ => rfl⟩
  refine ⟨⟨q, fun c j _ _ => e c j, fun _ _ _ _ => rfl, fun c j _ => e c j⟩, ?_⟩
  have i : IM (si m (pg m b) 8 (ownC m b)) := h.i.same (fun q _ => e _ _) (fun q _ j => e _ _) (fun j => e _ _) (e _ _) (fun j _ => e _ _) (e _ _)
  obtain ⟨a1, a2, a3, ⟨r1, r2, r3⟩, a5, a6⟩ := h
  exact ⟨a1.ref (q.st a1.1.1.s) i (fun c j _ _ => e c j), q.k1 a2, q.k2 a3, ⟨r1.same (fun r j _ => e _ _), r2.same (fun r j _ => e _ _), r3.same (fun r j _ => e _ _)⟩, ⟨fun j => by rw [e]; exact a5.1 j, fun j => by rw [e]; exact a5.2.1 j, fun j => by rw [e]; exact a5.2.2.1 j, by rw [e]; exact a5.2.2.2⟩, a6.same rfl (fun r j _ => e _ _)⟩
theorem LB.x {m N : AM} {b v : Int} (h : LB m N b) (k : K0 m) (hb : 0 ≤ b ∧ b < mi m 0 16) (hp : 145 ≤ bx m b) (hv : -2147483648 ≤ v ∧ v < 2147483648) : QX (si N (pg m b) 8 v) (wW (wN m) b (xW v)) := by
  have q := h.1.1
  have e16 : mi (si N (pg m b) 8 (ownC m b)) 0 16 = mi m 0 16 := q.2.2.1 0 16 (by unfold NQ; omega)
  have z := QR.watch (v := v) h.2 (k.cu q) (by rw [e16]; exact hb) hv
  rw [q.pge hp, si_over, q.wn] at z
  exact z
theorem LB.own {m N : AM} {b : Int} (h : LB m N b) (hp : pg m b = 62 ∨ 145 ≤ pg m b) {c k : Nat} (hc : 58 ≤ c ∧ c ≤ 61) (v : Int) : LB m (si N c k v) b := by
  unfold LB
  rw [si_comm N k 8 v _ (show c ≠ pg m b by omega)]
  exact ⟨h.1.cell (by unfold NQ; omega) (by omega) v, h.2.own hc v⟩
theorem LB.run {m N K : AM} {b v : Int} {W : ZW} (h : LB m N b) (h0 : QR m) (hp : pg m b = 62 ∨ 145 ≤ pg m b) (hr : -2147483648 ≤ ownC m b ∧ ownC m b < 2147483648) (hc : CU (si N (pg m b) 8 v) K) (hx : QX K W) : LB m K b := by
  have e : ∀ c j, c ≠ pg m b → mi (si K (pg m b) 8 (ownC m b)) c j = mi K c j := fun c j hc => mi_si_ne _ _ (fun q => hc q.1)
  have eN : ∀ (w : Int) c j, ¬ (c = pg m b ∧ j = 8) → mi (si N (pg m b) 8 w) c j = mi N c j := fun w c j hc => mi_si_ne _ _ hc
  obtain ⟨⟨q1, q2, q3, q4⟩, q5, q6, q7⟩ := h.1
  obtain ⟨⟨c1, c2, c3, c4⟩, c5, c6, c7⟩ := hc
  have q : QU m (si K (pg m b) 8 (ownC m b)) := by
    refine ⟨c1.trans q1, fun c k hk => (c2 c k hk).trans (q2 c k hk), fun c j hj => ?_, fun c j hj => (c4 c j hj).trans (q4 c j hj)⟩
    by_cases z : c = pg m b ∧ j = 8
    · rw [z.1, z.2, mi_si_same _ _ _ hr.1 hr.2]; rfl
    · have w := q3 c j hj
      rw [eN _ _ _ z] at w
      rw [mi_si_ne _ _ z, c3 c j hj, eN _ _ _ z, w]
  have hcu : CU m (si K (pg m b) 8 (ownC m b)) := by
    refine ⟨q, fun c j a1 a2 => ?_, fun c j a1 a2 => ?_, fun c j a => ?_⟩
    · have w := q5 c j a1 a2
      rw [eN _ _ _ (by omega)] at w
      rw [e _ _ (by omega), c5 c j a1 a2, eN _ _ _ (by omega), w]
    · exact (c6 c j a1 a2).trans (q6 c j a1 a2)
    · have w := q7 c j a
      rw [eN _ _ _ (by omega)] at w
      rw [e _ _ (by omega), c7 c j a, eN _ _ _ (by omega), w]
  have hn : ∀ c, c < 62 ∨ (62 < c ∧ c < 145) → c ≠ pg m b := fun c hc => by omega
  have i : IM (si K (pg m b) 8 (ownC m b)) := hx.i.oneA (fun q hq => hn _ ((by decide : ∀ q ∈ imS, q.1 < 62 ∨ (62 < q.1 ∧ q.1 < 145)) q hq)) (fun q hq => hn _ ((by decide : ∀ q ∈ imA, q.1 < 62 ∨ (62 < q.1 ∧ q.1 < 145)) q hq)) (by omega) (by omega) (by omega) (by omega)
  obtain ⟨x1, x2, x3, ⟨r1, r2, r3⟩, x5, x6⟩ := hx
  exact ⟨hcu, x1.ref (q.st h0.s) i (fun c j _ _ => e _ _ (by omega)), q.k1 h0.2.1, q.k2 h0.2.2.1, ⟨r1.same (fun r j _ => e _ _ (by omega)), r2.same (fun r j _ => e _ _ (by omega)), r3.same (fun r j _ => e _ _ (by omega))⟩, ⟨fun j => by rw [e _ _ (by omega)]; exact x5.1 j, fun j => by rw [e _ _ (by omega)]; exact x5.2.1 j, fun j => by rw [e _ _ (by omega)]; exact x5.2.2.1 j, by rw [e _ _ (by omega)]; exact x5.2.2.2⟩, x6.same rfl (fun r j _ => e _ _ (by omega))⟩
/-- what was noted foretells rightly -/
def Snd (m N : AM) (b fs n : Int) : Prop := (0 ≤ mi N 59 2 ∧ mi N 59 2 ≤ 256) ∧ ∀ i : Nat, (i : Int) < mi N 59 2 → ∀ x : Int, 0 ≤ x → x < 256 → z_iand x (z_ixor (freC m b) (-1)) = 0 → z_iand x (mi N 61 i) = mi N 60 i → ¬ outl (Wst m b x) (Fm m) fs n (mi m 0 17) b
/-- a set fails as another one does that is the same in the lines that did not fit -/
theorem same_fails {m : AM} {b s x f fs n : Int} (hW : (wN m).ok) (hb : 0 ≤ b ∧ b ≤ 5) (hbn : b < (wN m).nb) (hs0 : 0 ≤ s ∧ s < 256) (hx0 : 0 ≤ x ∧ x < 256) (hsf : z_iand s (z_ixor (freC m b) (-1)) = 0) (hxf : z_iand x (z_ixor (freC m b) (-1)) = 0) (hf : 0 ≤ f ∧ f < mi m 0 17 ∧ z_iand (z_ishr fs f) 1 ≠ 0) (hd : (zwFly (Wst m b s) (Fm m f) n (z_ishl 1 b)).fa b.toNat ≠ 0) (hM : z_iand x (z_iand ((zwFly (Wst m b s) (Fm m f) n (z_ishl 1 b)).mf b.toNat) (freC m b)) = z_iand s (z_iand ((zwFly (Wst m b s) (Fm m f) n (z_ishl 1 b)).mf b.toNat) (freC m b))) : ¬ outl (Wst m b x) (Fm m) fs n (mi m 0 17) b := by
  intro ho
  have hz := ho f hf.1 hf.2.1 hf.2.2
  rw [← zwFly_1 _ _ _ hb] at hz
  have hnl := (hW.2 b hb.1 hbn).1.2
  have nb : ¬ zBad (wN m) b (xW (z_ior (ownC m b) s)) (xW (z_ior (ownC m b) x)) (zwFly (wW (wN m) b (xW (z_ior (ownC m b) s))) (Fm m f) n (z_ishl 1 b)) := by
    rintro ⟨l, l0, l1, l2, l3⟩
    obtain ⟨k, rfl⟩ : ∃ k : Nat, l = k := ⟨l.toNat, by omega⟩
    have hk : k < 32 := by omega
    rw [show ((k : Nat) : Int).toNat = k by omega] at l3
    unfold xW at l2
    rw [bit_of _ hk, bit_of _ hk, bt_or, bt_or] at l2
    have hne : bt s k ≠ bt x k := fun e => l2 (by rw [e])
    have hfr : bt (freC m b) k = true := by
      by_cases c : bt s k = true
      · exact and_not_zero hsf hk c
      · refine and_not_zero hxf hk ?_
        revert hne c
        cases bt s k <;> cases bt x k <;> simp
    have h1 : bt (z_iand x (z_iand ((zwFly (Wst m b s) (Fm m f) n (z_ishl 1 b)).mf b.toNat) (freC m b))) k = bt (z_iand s (z_iand ((zwFly (Wst m b s) (Fm m f) n (z_ishl 1 b)).mf b.toNat) (freC m b))) k := by rw [hM]
    have l3' : bt ((zwFly (Wst m b s) (Fm m f) n (z_ishl 1 b)).mf b.toNat) k = true := l3
    rw [bt_and, bt_and, bt_and, bt_and, hfr, l3'] at h1
    simp at h1
    exact hne h1.symm
  have e := zwFly_watch (Fm m f) n (z_ishl 1 b) hW hb.1 nb
  exact hd (by rw [show zwFly (Wst m b s) (Fm m f) n (z_ishl 1 b) = zwFly (Wst m b x) (Fm m f) n (z_ishl 1 b) from e.symm]; exact hz)
/-- sets from one on, of one size, that keep P -/
noncomputable def zBi (P : Int → Prop) (fr size : Int) : Nat → Int → Int
  | 0, _ => -1
  | c + 1, s => @ite Int (bcX s = size ∧ z_iand s (z_ixor fr (-1)) = 0 ∧ P s) (Classical.propDecidable _) s (zBi P fr size c (s + 1))
noncomputable def zBo (P : Int → Prop) (fr : Int) : Nat → Int → Int
  | 0, _ => -1
  | c + 1, z => if zBi P fr z 256 0 ≥ 0 then zBi P fr z 256 0 else zBo P fr c (z + 1)
theorem zBi_y {P : Int → Prop} {fr size : Int} {c : Nat} {s : Int} (h1 : bcX s = size) (h2 : z_iand s (z_ixor fr (-1)) = 0) (h3 : P s) : zBi P fr size (c + 1) s = s := by
  show @ite Int (bcX s = size ∧ z_iand s (z_ixor fr (-1)) = 0 ∧ P s) (Classical.propDecidable _) s (zBi P fr size c (s + 1)) = s
  exact if_pos ⟨h1, h2, h3⟩
theorem zBi_n {P : Int → Prop} {fr size : Int} {c : Nat} {s : Int} (h : ¬ (bcX s = size ∧ z_iand s (z_ixor fr (-1)) = 0 ∧ P s)) : zBi P fr size (c + 1) s = zBi P fr size c (s + 1) := by
  show @ite Int (bcX s = size ∧ z_iand s (z_ixor fr (-1)) = 0 ∧ P s) (Classical.propDecidable _) s (zBi P fr size c (s + 1)) = _
  exact if_neg h
theorem zBi_rng {P : Int → Prop} {fr size : Int} : ∀ (c : Nat) (s : Int), 0 ≤ s → zBi P fr size c s = -1 ∨ (s ≤ zBi P fr size c s ∧ zBi P fr size c s < s + c) := by
  intro c
  induction c with
  | zero => intro s _; exact Or.inl rfl
  | succ c ih =>
    intro s hs
    by_cases h : bcX s = size ∧ z_iand s (z_ixor fr (-1)) = 0 ∧ P s
    · rw [zBi_y h.1 h.2.1 h.2.2]; exact Or.inr ⟨by omega, by omega⟩
    · rw [zBi_n h]
      rcases ih (s + 1) (by omega) with q | q
      · exact Or.inl q
      · exact Or.inr ⟨by omega, by omega⟩
theorem zBo_rng {P : Int → Prop} {fr : Int} : ∀ (c : Nat) (z : Int), -1 ≤ zBo P fr c z ∧ zBo P fr c z < 256 := by
  intro c
  induction c with
  | zero => intro z; exact (by decide : -1 ≤ (-1 : Int) ∧ (-1 : Int) < 256)
  | succ c ih =>
    intro z
    unfold zBo
    have := zBi_rng (P := P) (fr := fr) (size := z) 256 0 (by decide)
    split
    · omega
    · exact ih _
theorem outl_cg {W : ZW} {F F' : Int → Int → Nat → Int} {fs n nf b : Int} (h : ∀ f, 0 ≤ f → f < nf → F f = F' f) : outl W F fs n nf b ↔ outl W F' fs n nf b :=
  ⟨fun q f f0 f1 f2 => by rw [← h f f0 f1]; exact q f f0 f1 f2, fun q f f0 f1 f2 => by rw [h f f0 f1]; exact q f f0 f1 f2⟩
theorem LB.fm {m N : AM} {b : Int} (h : LB m N b) (h0 : QR m) (k : K0 m) (hb : 0 ≤ b ∧ b < mi m 0 16) (v : Int) : ∀ f, 0 ≤ f → f < mi m 0 17 → Fm (si N (pg m b) 8 v) f = Fm m f := by
  intro f f0 f1
  have q := h.1.1.fee (h0.flt f0 f1).1.2
  have hr := fun r hr => k.pf hb ⟨f0, f1⟩ r hr
  have ef : fl (si N (pg m b) 8 v) f = fl m f := h.1.1.fle f
  have ef2 : fl (si N (pg m b) 8 (ownC m b)) f = fl m f := h.1.1.fle f
  rw [ef2] at q
  show feF (si N (pg m b) 8 v) (fl (si N (pg m b) 8 v) f) = feF m (fl m f)
  rw [ef, ← q]
  have e : ∀ r j, r ≤ 5 → mi (si N (pg m b) 8 v) (fl m f + r) j = mi (si N (pg m b) 8 (ownC m b)) (fl m f + r) j := fun r j h5 => by rw [mi_si_ne _ _ (fun z => hr r (by omega) z.1.symm), mi_si_ne _ _ (fun z => hr r (by omega) z.1.symm)]
  funext t i
  have e6 : ∀ j, i < 3 → mi (si N (pg m b) 8 v) (fl m f + 6 + i) j = mi (si N (pg m b) 8 (ownC m b)) (fl m f + 6 + i) j := fun j hi => by rw [mi_si_ne _ _ (fun z => hr (6 + i) (by omega) (by omega)), mi_si_ne _ _ (fun z => hr (6 + i) (by omega) (by omega))]
  unfold feF
  by_cases hi : i < 3
  · rw [if_pos hi, if_pos hi]
    unfold FX3_feltAt FJ9_max_7cf53 FJ9_min_7cf53
    rw [show ((i : Nat) : Int).toNat = i by omega]
    simp only [e 1 _ (by decide), e 2 _ (by decide), e 3 _ (by decide), e 4 _ (by decide), fun j => e6 j hi]
  · rw [if_neg hi, if_neg hi]

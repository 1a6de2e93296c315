/-! all(): the class's side, ground -/
theorem QR.mv {m N : AM} (h : QR m) (e : N.2 = m.2) (ec : ∀ c j : Nat, ¬ ((49 ≤ c ∧ c ≤ 51) ∨ c = 57 ∨ (c = 0 ∧ j = 19)) → mi N c j = mi m c j) (h49 : ∀ j, -99999 ≤ mi N 49 j ∧ mi N 49 j ≤ 99999) (h50 : ∀ j, -999 ≤ mi N 50 j ∧ mi N 50 j ≤ 999) (h51 : ∀ j, 0 ≤ mi N 51 j ∧ mi N 51 j ≤ 99999) (h57 : ∀ j, -99999 ≤ mi N 57 j ∧ mi N 57 j ≤ 99999) (h19 : 0 ≤ mi N 0 19 ∧ mi N 0 19 ≤ 1) : QR N ∧ QU m N := by
  have eml : ∀ c j, ml N c j = ml m c j := fun c j => congrArg (fun q : (Nat → Nat → Int) × _ => (zl (q.1 c j)).toInt) e
  have q : QU m N := ⟨by rw [congrArg (fun q => q.2) e], fun c k _ => congrArg (fun q => q.2.1 c k) e, fun c j hc => ec c j (fun z => hc (by unfold NQ; omega)), fun c j _ => eml c j⟩
  have i : IM N := by
    refine ⟨fun z hz => ?_, fun z hz j => ?_, fun j hj => ?_⟩
    · by_cases c : z.1 = 0 ∧ z.2.1 = 19
      · have w := (by decide : ∀ z ∈ imS, z.1 = 0 → z.2.1 = 19 → z.2.2.1 = 0 ∧ z.2.2.2 = 1) z hz c.1 c.2
        rw [c.1, c.2, w.1, w.2]; exact h19
      · have w := (by decide : ∀ z ∈ imS, ¬ ((49 ≤ z.1 ∧ z.1 ≤ 51) ∨ z.1 = 57)) z hz
        rw [ec _ _ (by omega)]
        exact h.i.1 z hz
    · by_cases c50 : z.1 = 50
      · have w := (by decide : ∀ z ∈ imA, z.1 = 50 → z.2.1 = -999 ∧ z.2.2 = 999) z hz c50
        rw [c50, w.1, w.2]; exact h50 j
      · by_cases c51 : z.1 = 51
        · have w := (by decide : ∀ z ∈ imA, z.1 = 51 → z.2.1 = 0 ∧ z.2.2 = 99999) z hz c51
          rw [c51, w.1, w.2]; exact h51 j
        · by_cases c57 : z.1 = 57
          · have w := (by decide : ∀ z ∈ imA, z.1 = 57 → z.2.1 = -99999 ∧ z.2.2 = 99999) z hz c57
            rw [c57, w.1, w.2]; exact h57 j
          · have w := (by decide : ∀ z ∈ imA, z.1 ≠ 0 ∧ z.1 ≠ 49) z hz
            rw [ec _ _ (by omega)]
            exact h.i.2.1 z hz j
    · rw [ec 139 j (by omega), ec 86 1 (by omega), ec (68 + 3 * j) 2 (by omega), ec 0 16 (by omega)]
      exact h.i.2.2 j hj
  have r : ∀ o, sto o → RC m o → RC N o := fun o ho hr => hr.same (fun r j hr => ec _ _ (by unfold sto at ho; omega))
  refine ⟨⟨h.1.ref (q.st h.s) i (fun c' j a b => ec _ _ (by omega)), q.k1 h.2.1, q.k2 h.2.2.1, ⟨r 24 (Or.inl rfl) h.2.2.2.1.1, r 32 (Or.inr (Or.inl rfl)) h.2.2.2.1.2.1, r 40 (Or.inr (Or.inr rfl)) h.2.2.2.1.2.2⟩, ⟨fun j => by rw [ec _ _ (by omega)]; exact h.2.2.2.2.1.1 j, fun j => by rw [ec _ _ (by omega)]; exact h.2.2.2.2.1.2.1 j, fun j => by rw [ec _ _ (by omega)]; exact h.2.2.2.2.1.2.2.1 j, by rw [ec _ _ (by omega)]; exact h.2.2.2.2.1.2.2.2⟩, ?_⟩, q⟩
  obtain ⟨a1, a2, a3, a4, a5, a6, a7, a8⟩ := h.2.2.2.2.2
  refine ⟨ob2 e a1, a2, fun k hk => ?_, h49, h50, h51, fun j => by rw [ec _ _ (by omega)]; exact a7 j, fun k hk j => by rw [ec _ _ (by omega)]; exact a8 k hk j⟩
  have e1 : mr N = mr m := congrArg (fun q => q.2.1) e
  have e2 : mk N = mk m := congrArg (fun q => q.2.2.1) e
  have e3 : mn N = mn m := congrArg (fun q => q.2.2.2.1) e
  have e4 : mz N = mz m := congrArg (fun q => q.2.2.2.2) e
  rw [e1, e2, e3, e4]
  exact a3 k hk
theorem CU.mv {m N K : AM} (h : CU m N) (e : K.2 = N.2) (ec : ∀ c j : Nat, ¬ (49 ≤ c ∧ c ≤ 51) → mi K c j = mi N c j) : CU m K := by
  have eml : ∀ c j, ml K c j = ml N c j := fun c j => congrArg (fun q : (Nat → Nat → Int) × _ => (zl (q.1 c j)).toInt) e
  refine h.trans ⟨⟨by rw [congrArg (fun q => q.2) e], fun c k _ => congrArg (fun q => q.2.1 c k) e, fun c j hc => ec c j (fun z => hc (by unfold NQ; omega)), fun c j _ => eml c j⟩, fun c j _ _ => ec c j (by omega), fun c j _ _ => eml c j, fun c j _ => ec c j (by omega)⟩
/-- words that push a FELT name one -/
theorem sWF_felt {cd : Int → Nat × Int} : ∀ (c : Nat) (k n : Int), sWF cd c k n → ∀ j, k ≤ j → j < k + c → (cd j).1 = 3 → 0 ≤ (cd j).2 ∧ (cd j).2 ≤ 2 := by
  intro c
  induction c with
  | zero => intro k n _ j h1 h2; omega
  | succ c ih =>
    intro k n h j h1 h2 h3
    unfold sWF at h
    by_cases z : j = k
    · rw [z] at h3 ⊢
      rcases h.2 with q | q | q
      · exact q.2.2.2.2.1 h3
      · omega
      · omega
    · rcases h.2 with q | q | q
      · exact ih _ _ q.2.2.2.2.2 j (by omega) (by omega) h3
      · exact ih _ _ q.2.2 j (by omega) (by omega) h3
      · exact ih _ _ q.2.2.2 j (by omega) (by omega) h3
theorem rdF_r {W : ZW} (hok : W.ok) {b k : Int} (hb : 0 ≤ b ∧ b < W.nb) (h : rdF W b k) : 0 ≤ k ∧ k ≤ 2 := by
  obtain ⟨l, j, hl, hj, e⟩ := h
  have L := (hok.2 b hb.1 hb.2).2.1 l hl.1 hl.2
  have e1 : (W.cd b j).1 = 3 := by rw [e]
  have e2 : (W.cd b j).2 = k := by rw [e]
  rw [← e2]
  by_cases c : j < (W.at3 b l).2.1
  · exact sWF_felt _ _ _ (L.2.1 (by omega)) j (by omega) (by omega) e1
  · exact sWF_felt _ _ _ L.2.2.1 j (by omega) (by omega) e1
theorem frC_bit {m : AM} {p : Nat} {k j : Nat} (hk : k < 20) : ∀ n : Nat, j < n → mi m (p + 1) j = wdC (3, (k : Int)) → bt (frC m p n) k = true := by
  intro n
  induction n with
  | zero => intro h; omega
  | succ n ih =>
    intro h e
    have eu : frC m p (n + 1) = z_ior (frC m p n) (if z_ishr (mi m (p + 1) n) 20 = 3 then z_ishl 1 (z_iand (mi m (p + 1) n) 1048575) else 0) := rfl
    rw [eu, bt_or, Bool.or_eq_true]
    by_cases z : j = n
    · right
      rw [z] at e
      have w1 := wd_what (w := 3) (v := (k : Int)) (by decide) (by omega) (by omega)
      have w2 := wd_number (w := 3) (v := (k : Int)) (by decide) (by omega) (by omega)
      rw [e, w1, w2, if_pos (show ((3 : Nat) : Int) = 3 from rfl), shlI (by omega) (by omega) (by omega), decide_eq_true_iff]
      omega
    · exact Or.inl (ih (by omega) e)
theorem faC_bit {m : AM} {b k : Nat} : ∀ n : Nat, b < n → bt (frC m (pg m b) (mi m (pg m b) 5).toNat) k = true → bt (faC m n) k = true := by
  intro n
  induction n with
  | zero => intro h; omega
  | succ n ih =>
    intro h e
    have eu : faC m (n + 1) = z_ior (faC m n) (frC m (pg m n) (mi m (pg m n) 5).toNat) := rfl
    rw [eu, bt_or, Bool.or_eq_true]
    by_cases z : b = n
    · rw [z] at e; exact Or.inr e
    · exact Or.inl (ih (by omega) e)
/-- what is read shows among the FELTs read -/
theorem read_bit {m : AM} (h : QR m) (h3 : K3 m) {b k : Int} (hb : 0 ≤ b ∧ b < mi m 0 16) (hr : rdF (wN m) b k) : bt (faC m (mi m 0 16).toNat) k.toNat = true := by
  have hbn : b < (wN m).nb := by rw [← show mi m 0 16 = (wN m).nb from h.2.1.1]; exact hb.2
  have kr := rdF_r h.wok ⟨hb.1, hbn⟩ hr
  obtain ⟨l, j, hl, hj, e⟩ := hr
  have L := (h.wok.2 b hb.1 hbn).2.1 l hl.1 hl.2
  have B := (h.2.1.2 b hb.1 hbn).1
  have A := B.2.2.2.2.2.2.2 l hl.1 hl.2
  have w := A.2.2.2.2 j hj.1 hj.2
  have u := (h3 b hb.1 hb.2).2 l hl.1 hl.2
  rw [e] at w
  have q := frC_bit (m := m) (p := pg m b) (k := k.toNat) (j := j.toNat) (by omega) (mi m (pg m b) 5).toNat (by have := L.1.1; omega) (by rw [w, show ((k.toNat : Nat) : Int) = k by omega])
  have := faC_bit (m := m) (b := b.toNat) (k := k.toNat) (mi m 0 16).toNat (by omega) (by rw [show ((b.toNat : Nat) : Int) = b by omega]; exact q)
  exact this
/-- the class's state while beginnings are tried -/
def AK (m : AM) (f : Int) (N : AM) : Prop := CU m N ∧ QR N ∧ ∀ j : Nat, j < 3 → mi N 50 j = mi m 102 ((3 * f) + j).toNat ∧ mi N 51 j = mi m 103 ((3 * f) + j).toNat ∧ mi N 52 j = -1
theorem AK.die {m N : AM} {f n : Int} (hQ : QR m) (h : AK m f N) : zDie (wN N) (feF N 48) n ↔ gA m f n (mi N 49 0) (mi N 49 1) (mi N 49 2) := by
  rw [h.1.1.wn]
  unfold gA
  refine zDie_rd hQ.wok (fun t b hb0 hb1 k hr => ?_)
  have kr := rdF_r hQ.wok ⟨hb0, hb1⟩ hr
  have q := h.2.2 k.toNat (by omega)
  have c51 := h.2.1.i.a 51 0 99999 (by decide) k.toNat
  have e : feF N 48 t k.toNat = FX3_feltAt N 48 ((k.toNat : Nat) : Int) t := if_pos (by omega)
  have hk : k = 0 ∨ k = 1 ∨ k = 2 := by omega
  have e2 : ((k.toNat : Nat) : Int) = k := by omega
  have es : (if ((k.toNat : Nat) : Int) = 0 then mi N 49 0 else if ((k.toNat : Nat) : Int) = 1 then mi N 49 1 else mi N 49 2) = mi N 49 k.toNat := by
    rcases hk with rfl | rfl | rfl <;> rfl
  rw [e]
  unfold fbF
  rw [es, ← q.1, ← q.2.1]
  unfold FX3_feltAt FX12_heldBy FJ9_max_7cf53 FJ9_min_7cf53
  have z52 : mi N (48 + 4) ((k.toNat : Nat) : Int).toNat = -1 := q.2.2
  rw [if_pos (by rw [z52]; decide), if_pos (by rw [z52]; decide)]
  rw [show (((k.toNat : Nat) : Int)).toNat = k.toNat from Int.toNat_natCast _]
  simp only [Nat.reduceAdd]
  generalize (mi N 49 k.toNat) + (t * (mi N 50 k.toNat)) = v at *
  (repeat' split) <;> omega

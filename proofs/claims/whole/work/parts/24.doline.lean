theorem SameP.trans {m M N : AM} (h : SameP m M) (h2 : SameP M N) : SameP m N := ⟨h2.1.trans h.1, h2.2.1.trans h.2.1, fun o ho => (h2.2.2 o ho).trans (h.2.2 o ho)⟩
/-- the reference's line k of box b is one that its parser makes -/
def LK (m : AM) (b k : Int) : Prop := (mi m 95 k.toNat ≤ mi m 96 k.toNat ∧ mi m 96 k.toNat ≤ mi m 97 k.toNat) ∧ (mi m 95 k.toNat < mi m 96 k.toNat → sWF (cdX m) (mi m 96 k.toNat - mi m 95 k.toNat).toNat ((170 * b) + mi m 95 k.toNat) 0) ∧ sWF (cdX m) (mi m 97 k.toNat - mi m 96 k.toNat).toNat ((170 * b) + mi m 96 k.toNat) 0 ∧ (mi m 94 k.toNat < 10 → mi m 94 k.toNat ≤ 7 ∧ 2 ≤ mi m 88 ((8 * b) + mi m 94 k.toNat).toNat ∧ mi m 88 ((8 * b) + mi m 94 k.toNat).toNat ≤ 16)
theorem SameP.LK {m M : AM} (h : SameP m M) {b k : Int} (hl : LK m b k) : LK M b k := by
  obtain ⟨L, rfl⟩ := h.ex
  exact hl
theorem most_rng (m : AM) {b : Int} (h : 2 ≤ b) (h2 : b ≤ 16) : 1 ≤ FX12_mostOf m b ∧ FX12_mostOf m b ≤ 32767 := by
  have hb : b = 2 ∨ b = 3 ∨ b = 4 ∨ b = 5 ∨ b = 6 ∨ b = 7 ∨ b = 8 ∨ b = 9 ∨ b = 10 ∨ b = 11 ∨ b = 12 ∨ b = 13 ∨ b = 14 ∨ b = 15 ∨ b = 16 := by omega
  unfold FX12_mostOf
  rcases hb with rfl | rfl | rfl | rfl | rfl | rfl | rfl | rfl | rfl | rfl | rfl | rfl | rfl | rfl | rfl <;> decide +kernel
def mostX (m : AM) (b k : Int) : Int := if mi m 94 k.toNat ≥ 10 then 32767 else FX12_mostOf m (mi m 88 ((8 * b) + mi m 94 k.toNat).toNat)
theorem mostX_rng {m : AM} {b k : Int} (h : LK m b k) : 1 ≤ mostX m b k ∧ mostX m b k ≤ 32767 := by
  unfold mostX
  split
  · decide
  · have h1 := h.2.2.2 (by omega)
    exact most_rng m h1.2.1 h1.2.2
def watX (m : AM) (b l k : Int) : Int := if mi m 93 k.toNat ≠ 0 ∨ (b = mi m 86 48 ∧ z_iand (z_ishr (mi m 86 49) l) 1 = 1) then 1 else 0
def putX (m : AM) (b k v : Int) : AM :=
  if mi m 94 k.toNat ≥ 10 then si (si m 107 (((4 * b) + mi m 94 k.toNat) - 10).toNat v) 108 (((4 * b) + mi m 94 k.toNat) - 10).toNat 0 else si m 106 ((8 * b) + mi m 94 k.toNat).toNat v
theorem SameP.put {m M : AM} (h : SameP m M) (b k v : Int) : SameP (putX m b k v) (putX M b k v) := by
  unfold putX
  rw [h.mi 94]
  split
  · exact (h.si _ _ _).si _ _ _
  · exact h.si _ _ _
theorem z_l2i_of {v : Int} (h : -2147483648 ≤ v) (h2 : v < 2147483648) : z_l2i v = v := zi_toInt h h2
/-- what a number v does to the target of line l: the fault, the memory -/
def landM (m : AM) (b l k v : Int) : Int × AM :=
  if v > mostX m b k ∨ v < -mostX m b k - 1 then
    if watX m b l k = 1 then (0, putX m b k (if v > mostX m b k then mostX m b k else -mostX m b k - 1)) else (1, m)
  else (0, putX m b k v)
/-- the second part of a line -/
def doB (m : AM) (b l k : Int) : Int × AM :=
  if (eM m b (mi m 96 k.toNat) (mi m 97 k.toNat)).1 > 0 then ((eM m b (mi m 96 k.toNat) (mi m 97 k.toNat)).1, m)
  else landM m b l k (eM m b (mi m 96 k.toNat) (mi m 97 k.toNat)).2
def doM (m : AM) (b l : Int) : Int × AM :=
  if mi m 96 ((12 * b) + l).toNat > mi m 95 ((12 * b) + l).toNat then
    if (eM m b (mi m 95 ((12 * b) + l).toNat) (mi m 96 ((12 * b) + l).toNat)).1 > 0 then ((eM m b (mi m 95 ((12 * b) + l).toNat) (mi m 96 ((12 * b) + l).toNat)).1, m)
    else if (eM m b (mi m 95 ((12 * b) + l).toNat) (mi m 96 ((12 * b) + l).toNat)).2 = 0 then (0, m)
    else doB m b l ((12 * b) + l)
  else doB m b l ((12 * b) + l)
def RpD (m : AM) (D : Int × AM) : Option Vl → AM → Prop := fun r m' => SameP D.2 m' ∧ r = some (vI D.1)
theorem SameP.land {m M : AM} (h : SameP m M) (b l k v : Int) : (landM M b l k v).1 = (landM m b l k v).1 ∧ SameP (landM m b l k v).2 (landM M b l k v).2 := by
  have e1 : mostX M b k = mostX m b k := by unfold mostX FX12_mostOf; simp only [h.mi]
  have e2 : watX M b l k = watX m b l k := by unfold watX; simp only [h.mi]
  unfold landM
  simp only [e1, e2]
  split
  · split
    · exact ⟨rfl, h.put _ _ _⟩
    · exact ⟨rfl, h⟩
  · exact ⟨rfl, h.put _ _ _⟩

set_option maxRecDepth 20000 in
set_option maxHeartbeats 4000000 in
theorem lp_doLine_181 {G : QW} {M : AM} {b l k v p q : Int} (hRF : RF M) (hb0 : 0 ≤ b) (hb5 : b ≤ 5) (hl0 : 0 ≤ l) (hl1 : l ≤ 11) (hk : k = (12 * b) + l) (hLK : LK M b k) (hv0 : -1000000000 ≤ v) (hv1 : v ≤ 1000000000) (hp : (mi M 94 k.toNat ≥ 10 ∧ p = 1) ∨ (mi M 94 k.toNat < 10 ∧ p = 0)) (hq : q = mostX M b k) {Rp : Option Vl → AM → Prop} {w : Int} (hw : w = 0 ∨ w = 1)
    (hone : (v > q ∨ v < -q - 1) → w = 0 → Rp (some (vI 1)) M)
    (hput : ∀ (x : Int) (N : AM), N = N → (v > q → x = q ∧ w = 1) → (v < -q - 1 → x = -q - 1 ∧ w = 1) → (¬ v > q → ¬ v < -q - 1 → x = v) → N = putX M b k (z_l2i x) → Rp (some (vI 0)) N) : qJ G mX12_doLine { frames := 2, cells := 0, slots := 0, locals := 60 * 2 } (qF G Rp 0 0) 181 [(0, vR 86), (1, vI b), (2, vI l), (3, vI k), (5, vL v), (7, vI p), (8, vI q), (9, vI w)] [] M 0 0 := by
  obtain ⟨hS, hI, -⟩ := hRF
  have ht7 : mi M 94 k.toNat < 10 → mi M 94 k.toNat ≤ 7 := fun h => (hLK.2.2.2 h).1
  have hqr := mostX_rng hLK
  rw [← hq] at hqr
  refine j_lload rfl rfl ?_
  refine j_iload rfl rfl ?_
  refine j_i2l rfl (by omega) (by omega) ?_
  refine j_lc_gt (tgt := 202) rfl rfl (by decide) (by omega) (by omega) (by omega) (by omega) (fun hb186_1 => ?_) (fun hb186_1 => ?_)
  · skip
    refine j_iload rfl rfl ?_
    refine j_if_ne (tgt := 209) rfl (by decide) (by omega) (by omega) (fun hb204_1 => ?_) (fun hb204_1 => ?_)
    · skip
      refine j_lload rfl rfl ?_
      refine j_iload rfl rfl ?_
      refine j_i2l rfl (by omega) (by omega) ?_
      refine j_lc_le (tgt := 224) rfl rfl (by decide) (by omega) (by omega) (by omega) (by omega) (fun hb214_1 => ?_) (fun hb214_1 => ?_)
      · skip
        refine j_iload rfl rfl ?_
        refine j_ineg rfl ?_
        refine j_iconst rfl ?_
        refine j_isub rfl ?_
        refine j_i2l rfl (by omega) (by omega) ?_
        refine j_lstore rfl (by decide) ?_
        refine j_iload rfl rfl ?_
        refine j_if_eq (tgt := 280) rfl (by decide) (by omega) (by omega) (fun hb234_1 => ?_) (fun hb234_1 => ?_)
        · skip
          refine j_aload_n rfl rfl ?_
          refine j_getR (q := 106) rfl f_X12_69 rfl (hS.lt (by decide)) (hS.k (by decide) (by decide)) (hS.r (by decide)) ?_
          refine j_bipush rfl (by decide) ?_
          refine j_iload_n rfl rfl ?_
          refine j_imul rfl ?_
          refine j_aload_n rfl rfl ?_
          refine j_getR (q := 94) rfl f_X12_32 rfl (hS.lt (by decide)) (hS.k (by decide) (by decide)) (hS.r (by decide)) ?_
          refine j_iload_n rfl rfl ?_
          refine j_iald (n := 84) rfl (hS.lt (by decide)) (hS.k (by decide) (by decide)) (hS.n (by decide) (by decide)) (by omega) (by omega) (by decide) ?_
          have u293_1 := hI.a 94 (0) 13 (by decide) k.toNat
          refine j_iadd rfl ?_
          refine j_lload rfl rfl ?_
          refine j_l2iW rfl ?_
          have z297_1 := z_l2i_rng ((-q) - 1)
          refine j_iast (n := 48) rfl (hS.lt (by decide)) (hS.k (by decide) (by decide)) (hS.n (by decide) (by decide)) (by omega) (by omega) (by first | decide | omega) ?_
          refine j_iconst rfl ?_
          refine j_iret rfl rfl ?_ rfl (Nat.le_refl _)
          exact hput ((-q) - 1) _ rfl (by omega) (by omega) (by omega) (by first | (exfalso; omega) | (unfold putX; rw [if_pos (by omega)]; done) | (unfold putX; rw [if_neg (by omega)]; done))
        · skip
          refine j_aload_n rfl rfl ?_
          refine j_getR (q := 107) rfl f_X12_72 rfl (hS.lt (by decide)) (hS.k (by decide) (by decide)) (hS.r (by decide)) ?_
          refine j_iconst rfl ?_
          refine j_iload_n rfl rfl ?_
          refine j_imul rfl ?_
          refine j_aload_n rfl rfl ?_
          refine j_getR (q := 94) rfl f_X12_32 rfl (hS.lt (by decide)) (hS.k (by decide) (by decide)) (hS.r (by decide)) ?_
          refine j_iload_n rfl rfl ?_
          refine j_iald (n := 84) rfl (hS.lt (by decide)) (hS.k (by decide) (by decide)) (hS.n (by decide) (by decide)) (by omega) (by omega) (by decide) ?_
          have u249_1 := hI.a 94 (0) 13 (by decide) k.toNat
          refine j_iadd rfl ?_
          refine j_bipush rfl (by decide) ?_
          refine j_isub rfl ?_
          refine j_lload rfl rfl ?_
          refine j_l2iW rfl ?_
          have z256_1 := z_l2i_rng ((-q) - 1)
          refine j_iast (n := 24) rfl (hS.lt (by decide)) (hS.k (by decide) (by decide)) (hS.n (by decide) (by decide)) (by omega) (by omega) (by first | decide | omega) ?_
          refine j_aload_n rfl rfl ?_
          refine j_getR (q := 108) rfl f_X12_75 rfl (hS.lt (by decide)) (hS.k (by decide) (by decide)) (hS.r (by decide)) ?_
          refine j_iconst rfl ?_
          refine j_iload_n rfl rfl ?_
          refine j_imul rfl ?_
          refine j_aload_n rfl rfl ?_
          refine j_getR (q := 94) rfl f_X12_32 rfl (hS.lt (by decide)) (hS.k (by decide) (by decide)) (hS.r (by decide)) ?_
          refine j_iload_n rfl rfl ?_
          refine j_iald (n := 84) rfl (hS.lt (by decide)) (hS.k (by decide) (by decide)) (hS.n (by decide) (by decide)) (by omega) (by omega) (by decide) ?_
          rw [show mi (si M 107 (((4 * b) + (mi M 94 k.toNat)) - 10).toNat (z_l2i ((-q) - 1))) 94 k.toNat = mi M 94 k.toNat from by simp [mi_si, mi_fil, mi_cpr, mi_sl, mi_sr, ml_sl, ml_si, ml_sr, ml_fil, ml_cpr]]
          have u270_1 := hI.a 94 (0) 13 (by decide) k.toNat
          refine j_iadd rfl ?_
          refine j_bipush rfl (by decide) ?_
          refine j_isub rfl ?_
          refine j_iconst rfl ?_
          refine j_iast (n := 24) rfl (hS.lt (by decide)) (hS.k (by decide) (by decide)) (hS.n (by decide) (by decide)) (by omega) (by omega) (by first | decide | omega) ?_
          refine j_goto (tgt := 299) rfl (by decide) ?_
          refine j_iconst rfl ?_
          refine j_iret rfl rfl ?_ rfl (Nat.le_refl _)
          exact hput ((-q) - 1) _ rfl (by omega) (by omega) (by omega) (by first | (exfalso; omega) | (unfold putX; rw [if_pos (by omega)]; done) | (unfold putX; rw [if_neg (by omega)]; done))
      · skip
        refine j_iload rfl rfl ?_
        refine j_i2l rfl (by omega) (by omega) ?_
        refine j_goto (tgt := 230) rfl (by decide) ?_
        refine j_lstore rfl (by decide) ?_
        refine j_iload rfl rfl ?_
        refine j_if_eq (tgt := 280) rfl (by decide) (by omega) (by omega) (fun hb234_2 => ?_) (fun hb234_2 => ?_)
        · skip
          refine j_aload_n rfl rfl ?_
          refine j_getR (q := 106) rfl f_X12_69 rfl (hS.lt (by decide)) (hS.k (by decide) (by decide)) (hS.r (by decide)) ?_
          refine j_bipush rfl (by decide) ?_
          refine j_iload_n rfl rfl ?_
          refine j_imul rfl ?_
          refine j_aload_n rfl rfl ?_
          refine j_getR (q := 94) rfl f_X12_32 rfl (hS.lt (by decide)) (hS.k (by decide) (by decide)) (hS.r (by decide)) ?_
          refine j_iload_n rfl rfl ?_
          refine j_iald (n := 84) rfl (hS.lt (by decide)) (hS.k (by decide) (by decide)) (hS.n (by decide) (by decide)) (by omega) (by omega) (by decide) ?_
          have u293_2 := hI.a 94 (0) 13 (by decide) k.toNat
          refine j_iadd rfl ?_
          refine j_lload rfl rfl ?_
          refine j_l2iW rfl ?_
          have z297_2 := z_l2i_rng q
          refine j_iast (n := 48) rfl (hS.lt (by decide)) (hS.k (by decide) (by decide)) (hS.n (by decide) (by decide)) (by omega) (by omega) (by first | decide | omega) ?_
          refine j_iconst rfl ?_
          refine j_iret rfl rfl ?_ rfl (Nat.le_refl _)
          exact hput q _ rfl (by omega) (by omega) (by omega) (by first | (exfalso; omega) | (unfold putX; rw [if_pos (by omega)]; done) | (unfold putX; rw [if_neg (by omega)]; done))
        · skip
          refine j_aload_n rfl rfl ?_
          refine j_getR (q := 107) rfl f_X12_72 rfl (hS.lt (by decide)) (hS.k (by decide) (by decide)) (hS.r (by decide)) ?_
          refine j_iconst rfl ?_
          refine j_iload_n rfl rfl ?_
          refine j_imul rfl ?_
          refine j_aload_n rfl rfl ?_
          refine j_getR (q := 94) rfl f_X12_32 rfl (hS.lt (by decide)) (hS.k (by decide) (by decide)) (hS.r (by decide)) ?_
          refine j_iload_n rfl rfl ?_
          refine j_iald (n := 84) rfl (hS.lt (by decide)) (hS.k (by decide) (by decide)) (hS.n (by decide) (by decide)) (by omega) (by omega) (by decide) ?_
          have u249_2 := hI.a 94 (0) 13 (by decide) k.toNat
          refine j_iadd rfl ?_
          refine j_bipush rfl (by decide) ?_
          refine j_isub rfl ?_
          refine j_lload rfl rfl ?_
          refine j_l2iW rfl ?_
          have z256_2 := z_l2i_rng q
          refine j_iast (n := 24) rfl (hS.lt (by decide)) (hS.k (by decide) (by decide)) (hS.n (by decide) (by decide)) (by omega) (by omega) (by first | decide | omega) ?_
          refine j_aload_n rfl rfl ?_
          refine j_getR (q := 108) rfl f_X12_75 rfl (hS.lt (by decide)) (hS.k (by decide) (by decide)) (hS.r (by decide)) ?_
          refine j_iconst rfl ?_
          refine j_iload_n rfl rfl ?_
          refine j_imul rfl ?_
          refine j_aload_n rfl rfl ?_
          refine j_getR (q := 94) rfl f_X12_32 rfl (hS.lt (by decide)) (hS.k (by decide) (by decide)) (hS.r (by decide)) ?_
          refine j_iload_n rfl rfl ?_
          refine j_iald (n := 84) rfl (hS.lt (by decide)) (hS.k (by decide) (by decide)) (hS.n (by decide) (by decide)) (by omega) (by omega) (by decide) ?_
          rw [show mi (si M 107 (((4 * b) + (mi M 94 k.toNat)) - 10).toNat (z_l2i q)) 94 k.toNat = mi M 94 k.toNat from by simp [mi_si, mi_fil, mi_cpr, mi_sl, mi_sr, ml_sl, ml_si, ml_sr, ml_fil, ml_cpr]]
          have u270_2 := hI.a 94 (0) 13 (by decide) k.toNat
          refine j_iadd rfl ?_
          refine j_bipush rfl (by decide) ?_
          refine j_isub rfl ?_
          refine j_iconst rfl ?_
          refine j_iast (n := 24) rfl (hS.lt (by decide)) (hS.k (by decide) (by decide)) (hS.n (by decide) (by decide)) (by omega) (by omega) (by first | decide | omega) ?_
          refine j_goto (tgt := 299) rfl (by decide) ?_
          refine j_iconst rfl ?_
          refine j_iret rfl rfl ?_ rfl (Nat.le_refl _)
          exact hput q _ rfl (by omega) (by omega) (by omega) (by first | (exfalso; omega) | (unfold putX; rw [if_pos (by omega)]; done) | (unfold putX; rw [if_neg (by omega)]; done))
    · skip
      refine j_iconst rfl ?_
      refine j_iret rfl rfl ?_ rfl (Nat.le_refl _)
      exact hone (by omega) (by omega)
  · skip
    refine j_lload rfl rfl ?_
    refine j_iload rfl rfl ?_
    refine j_ineg rfl ?_
    refine j_iconst rfl ?_
    refine j_isub rfl ?_
    refine j_i2l rfl (by omega) (by omega) ?_
    refine j_lc_ge (tgt := 232) rfl rfl (by decide) (by omega) (by omega) (by omega) (by omega) (fun hb198_1 => ?_) (fun hb198_1 => ?_)
    · skip
      refine j_iload rfl rfl ?_
      refine j_if_eq (tgt := 280) rfl (by decide) (by omega) (by omega) (fun hb234_3 => ?_) (fun hb234_3 => ?_)
      · skip
        refine j_aload_n rfl rfl ?_
        refine j_getR (q := 106) rfl f_X12_69 rfl (hS.lt (by decide)) (hS.k (by decide) (by decide)) (hS.r (by decide)) ?_
        refine j_bipush rfl (by decide) ?_
        refine j_iload_n rfl rfl ?_
        refine j_imul rfl ?_
        refine j_aload_n rfl rfl ?_
        refine j_getR (q := 94) rfl f_X12_32 rfl (hS.lt (by decide)) (hS.k (by decide) (by decide)) (hS.r (by decide)) ?_
        refine j_iload_n rfl rfl ?_
        refine j_iald (n := 84) rfl (hS.lt (by decide)) (hS.k (by decide) (by decide)) (hS.n (by decide) (by decide)) (by omega) (by omega) (by decide) ?_
        have u293_3 := hI.a 94 (0) 13 (by decide) k.toNat
        refine j_iadd rfl ?_
        refine j_lload rfl rfl ?_
        refine j_l2iW rfl ?_
        have z297_3 := z_l2i_rng v
        refine j_iast (n := 48) rfl (hS.lt (by decide)) (hS.k (by decide) (by decide)) (hS.n (by decide) (by decide)) (by omega) (by omega) (by first | decide | omega) ?_
        refine j_iconst rfl ?_
        refine j_iret rfl rfl ?_ rfl (Nat.le_refl _)
        exact hput v _ rfl (by omega) (by omega) (by omega) (by first | (exfalso; omega) | (unfold putX; rw [if_pos (by omega)]; done) | (unfold putX; rw [if_neg (by omega)]; done))
      · skip
        refine j_aload_n rfl rfl ?_
        refine j_getR (q := 107) rfl f_X12_72 rfl (hS.lt (by decide)) (hS.k (by decide) (by decide)) (hS.r (by decide)) ?_
        refine j_iconst rfl ?_
        refine j_iload_n rfl rfl ?_
        refine j_imul rfl ?_
        refine j_aload_n rfl rfl ?_
        refine j_getR (q := 94) rfl f_X12_32 rfl (hS.lt (by decide)) (hS.k (by decide) (by decide)) (hS.r (by decide)) ?_
        refine j_iload_n rfl rfl ?_
        refine j_iald (n := 84) rfl (hS.lt (by decide)) (hS.k (by decide) (by decide)) (hS.n (by decide) (by decide)) (by omega) (by omega) (by decide) ?_
        have u249_3 := hI.a 94 (0) 13 (by decide) k.toNat
        refine j_iadd rfl ?_
        refine j_bipush rfl (by decide) ?_
        refine j_isub rfl ?_
        refine j_lload rfl rfl ?_
        refine j_l2iW rfl ?_
        have z256_3 := z_l2i_rng v
        refine j_iast (n := 24) rfl (hS.lt (by decide)) (hS.k (by decide) (by decide)) (hS.n (by decide) (by decide)) (by omega) (by omega) (by first | decide | omega) ?_
        refine j_aload_n rfl rfl ?_
        refine j_getR (q := 108) rfl f_X12_75 rfl (hS.lt (by decide)) (hS.k (by decide) (by decide)) (hS.r (by decide)) ?_
        refine j_iconst rfl ?_
        refine j_iload_n rfl rfl ?_
        refine j_imul rfl ?_
        refine j_aload_n rfl rfl ?_
        refine j_getR (q := 94) rfl f_X12_32 rfl (hS.lt (by decide)) (hS.k (by decide) (by decide)) (hS.r (by decide)) ?_
        refine j_iload_n rfl rfl ?_
        refine j_iald (n := 84) rfl (hS.lt (by decide)) (hS.k (by decide) (by decide)) (hS.n (by decide) (by decide)) (by omega) (by omega) (by decide) ?_
        rw [show mi (si M 107 (((4 * b) + (mi M 94 k.toNat)) - 10).toNat (z_l2i v)) 94 k.toNat = mi M 94 k.toNat from by simp [mi_si, mi_fil, mi_cpr, mi_sl, mi_sr, ml_sl, ml_si, ml_sr, ml_fil, ml_cpr]]
        have u270_3 := hI.a 94 (0) 13 (by decide) k.toNat
        refine j_iadd rfl ?_
        refine j_bipush rfl (by decide) ?_
        refine j_isub rfl ?_
        refine j_iconst rfl ?_
        refine j_iast (n := 24) rfl (hS.lt (by decide)) (hS.k (by decide) (by decide)) (hS.n (by decide) (by decide)) (by omega) (by omega) (by first | decide | omega) ?_
        refine j_goto (tgt := 299) rfl (by decide) ?_
        refine j_iconst rfl ?_
        refine j_iret rfl rfl ?_ rfl (Nat.le_refl _)
        exact hput v _ rfl (by omega) (by omega) (by omega) (by first | (exfalso; omega) | (unfold putX; rw [if_pos (by omega)]; done) | (unfold putX; rw [if_neg (by omega)]; done))
    · skip
      refine j_iload rfl rfl ?_
      refine j_if_ne (tgt := 209) rfl (by decide) (by omega) (by omega) (fun hb204_2 => ?_) (fun hb204_2 => ?_)
      · skip
        refine j_lload rfl rfl ?_
        refine j_iload rfl rfl ?_
        refine j_i2l rfl (by omega) (by omega) ?_
        refine j_lc_le (tgt := 224) rfl rfl (by decide) (by omega) (by omega) (by omega) (by omega) (fun hb214_2 => ?_) (fun hb214_2 => ?_)
        · skip
          refine j_iload rfl rfl ?_
          refine j_ineg rfl ?_
          refine j_iconst rfl ?_
          refine j_isub rfl ?_
          refine j_i2l rfl (by omega) (by omega) ?_
          refine j_lstore rfl (by decide) ?_
          refine j_iload rfl rfl ?_
          refine j_if_eq (tgt := 280) rfl (by decide) (by omega) (by omega) (fun hb234_4 => ?_) (fun hb234_4 => ?_)
          · skip
            refine j_aload_n rfl rfl ?_
            refine j_getR (q := 106) rfl f_X12_69 rfl (hS.lt (by decide)) (hS.k (by decide) (by decide)) (hS.r (by decide)) ?_
            refine j_bipush rfl (by decide) ?_
            refine j_iload_n rfl rfl ?_
            refine j_imul rfl ?_
            refine j_aload_n rfl rfl ?_
            refine j_getR (q := 94) rfl f_X12_32 rfl (hS.lt (by decide)) (hS.k (by decide) (by decide)) (hS.r (by decide)) ?_
            refine j_iload_n rfl rfl ?_
            refine j_iald (n := 84) rfl (hS.lt (by decide)) (hS.k (by decide) (by decide)) (hS.n (by decide) (by decide)) (by omega) (by omega) (by decide) ?_
            have u293_4 := hI.a 94 (0) 13 (by decide) k.toNat
            refine j_iadd rfl ?_
            refine j_lload rfl rfl ?_
            refine j_l2iW rfl ?_
            have z297_4 := z_l2i_rng ((-q) - 1)
            refine j_iast (n := 48) rfl (hS.lt (by decide)) (hS.k (by decide) (by decide)) (hS.n (by decide) (by decide)) (by omega) (by omega) (by first | decide | omega) ?_
            refine j_iconst rfl ?_
            refine j_iret rfl rfl ?_ rfl (Nat.le_refl _)
            exact hput ((-q) - 1) _ rfl (by omega) (by omega) (by omega) (by first | (exfalso; omega) | (unfold putX; rw [if_pos (by omega)]; done) | (unfold putX; rw [if_neg (by omega)]; done))
          · skip
            refine j_aload_n rfl rfl ?_
            refine j_getR (q := 107) rfl f_X12_72 rfl (hS.lt (by decide)) (hS.k (by decide) (by decide)) (hS.r (by decide)) ?_
            refine j_iconst rfl ?_
            refine j_iload_n rfl rfl ?_
            refine j_imul rfl ?_
            refine j_aload_n rfl rfl ?_
            refine j_getR (q := 94) rfl f_X12_32 rfl (hS.lt (by decide)) (hS.k (by decide) (by decide)) (hS.r (by decide)) ?_
            refine j_iload_n rfl rfl ?_
            refine j_iald (n := 84) rfl (hS.lt (by decide)) (hS.k (by decide) (by decide)) (hS.n (by decide) (by decide)) (by omega) (by omega) (by decide) ?_
            have u249_4 := hI.a 94 (0) 13 (by decide) k.toNat
            refine j_iadd rfl ?_
            refine j_bipush rfl (by decide) ?_
            refine j_isub rfl ?_
            refine j_lload rfl rfl ?_
            refine j_l2iW rfl ?_
            have z256_4 := z_l2i_rng ((-q) - 1)
            refine j_iast (n := 24) rfl (hS.lt (by decide)) (hS.k (by decide) (by decide)) (hS.n (by decide) (by decide)) (by omega) (by omega) (by first | decide | omega) ?_
            refine j_aload_n rfl rfl ?_
            refine j_getR (q := 108) rfl f_X12_75 rfl (hS.lt (by decide)) (hS.k (by decide) (by decide)) (hS.r (by decide)) ?_
            refine j_iconst rfl ?_
            refine j_iload_n rfl rfl ?_
            refine j_imul rfl ?_
            refine j_aload_n rfl rfl ?_
            refine j_getR (q := 94) rfl f_X12_32 rfl (hS.lt (by decide)) (hS.k (by decide) (by decide)) (hS.r (by decide)) ?_
            refine j_iload_n rfl rfl ?_
            refine j_iald (n := 84) rfl (hS.lt (by decide)) (hS.k (by decide) (by decide)) (hS.n (by decide) (by decide)) (by omega) (by omega) (by decide) ?_
            rw [show mi (si M 107 (((4 * b) + (mi M 94 k.toNat)) - 10).toNat (z_l2i ((-q) - 1))) 94 k.toNat = mi M 94 k.toNat from by simp [mi_si, mi_fil, mi_cpr, mi_sl, mi_sr, ml_sl, ml_si, ml_sr, ml_fil, ml_cpr]]
            have u270_4 := hI.a 94 (0) 13 (by decide) k.toNat
            refine j_iadd rfl ?_
            refine j_bipush rfl (by decide) ?_
            refine j_isub rfl ?_
            refine j_iconst rfl ?_
            refine j_iast (n := 24) rfl (hS.lt (by decide)) (hS.k (by decide) (by decide)) (hS.n (by decide) (by decide)) (by omega) (by omega) (by first | decide | omega) ?_
            refine j_goto (tgt := 299) rfl (by decide) ?_
            refine j_iconst rfl ?_
            refine j_iret rfl rfl ?_ rfl (Nat.le_refl _)
            exact hput ((-q) - 1) _ rfl (by omega) (by omega) (by omega) (by first | (exfalso; omega) | (unfold putX; rw [if_pos (by omega)]; done) | (unfold putX; rw [if_neg (by omega)]; done))
        · skip
          refine j_iload rfl rfl ?_
          refine j_i2l rfl (by omega) (by omega) ?_
          refine j_goto (tgt := 230) rfl (by decide) ?_
          refine j_lstore rfl (by decide) ?_
          refine j_iload rfl rfl ?_
          refine j_if_eq (tgt := 280) rfl (by decide) (by omega) (by omega) (fun hb234_5 => ?_) (fun hb234_5 => ?_)
          · skip
            refine j_aload_n rfl rfl ?_
            refine j_getR (q := 106) rfl f_X12_69 rfl (hS.lt (by decide)) (hS.k (by decide) (by decide)) (hS.r (by decide)) ?_
            refine j_bipush rfl (by decide) ?_
            refine j_iload_n rfl rfl ?_
            refine j_imul rfl ?_
            refine j_aload_n rfl rfl ?_
            refine j_getR (q := 94) rfl f_X12_32 rfl (hS.lt (by decide)) (hS.k (by decide) (by decide)) (hS.r (by decide)) ?_
            refine j_iload_n rfl rfl ?_
            refine j_iald (n := 84) rfl (hS.lt (by decide)) (hS.k (by decide) (by decide)) (hS.n (by decide) (by decide)) (by omega) (by omega) (by decide) ?_
            have u293_5 := hI.a 94 (0) 13 (by decide) k.toNat
            refine j_iadd rfl ?_
            refine j_lload rfl rfl ?_
            refine j_l2iW rfl ?_
            have z297_5 := z_l2i_rng q
            refine j_iast (n := 48) rfl (hS.lt (by decide)) (hS.k (by decide) (by decide)) (hS.n (by decide) (by decide)) (by omega) (by omega) (by first | decide | omega) ?_
            refine j_iconst rfl ?_
            refine j_iret rfl rfl ?_ rfl (Nat.le_refl _)
            exact hput q _ rfl (by omega) (by omega) (by omega) (by first | (exfalso; omega) | (unfold putX; rw [if_pos (by omega)]; done) | (unfold putX; rw [if_neg (by omega)]; done))
          · skip
            refine j_aload_n rfl rfl ?_
            refine j_getR (q := 107) rfl f_X12_72 rfl (hS.lt (by decide)) (hS.k (by decide) (by decide)) (hS.r (by decide)) ?_
            refine j_iconst rfl ?_
            refine j_iload_n rfl rfl ?_
            refine j_imul rfl ?_
            refine j_aload_n rfl rfl ?_
            refine j_getR (q := 94) rfl f_X12_32 rfl (hS.lt (by decide)) (hS.k (by decide) (by decide)) (hS.r (by decide)) ?_
            refine j_iload_n rfl rfl ?_
            refine j_iald (n := 84) rfl (hS.lt (by decide)) (hS.k (by decide) (by decide)) (hS.n (by decide) (by decide)) (by omega) (by omega) (by decide) ?_
            have u249_5 := hI.a 94 (0) 13 (by decide) k.toNat
            refine j_iadd rfl ?_
            refine j_bipush rfl (by decide) ?_
            refine j_isub rfl ?_
            refine j_lload rfl rfl ?_
            refine j_l2iW rfl ?_
            have z256_5 := z_l2i_rng q
            refine j_iast (n := 24) rfl (hS.lt (by decide)) (hS.k (by decide) (by decide)) (hS.n (by decide) (by decide)) (by omega) (by omega) (by first | decide | omega) ?_
            refine j_aload_n rfl rfl ?_
            refine j_getR (q := 108) rfl f_X12_75 rfl (hS.lt (by decide)) (hS.k (by decide) (by decide)) (hS.r (by decide)) ?_
            refine j_iconst rfl ?_
            refine j_iload_n rfl rfl ?_
            refine j_imul rfl ?_
            refine j_aload_n rfl rfl ?_
            refine j_getR (q := 94) rfl f_X12_32 rfl (hS.lt (by decide)) (hS.k (by decide) (by decide)) (hS.r (by decide)) ?_
            refine j_iload_n rfl rfl ?_
            refine j_iald (n := 84) rfl (hS.lt (by decide)) (hS.k (by decide) (by decide)) (hS.n (by decide) (by decide)) (by omega) (by omega) (by decide) ?_
            rw [show mi (si M 107 (((4 * b) + (mi M 94 k.toNat)) - 10).toNat (z_l2i q)) 94 k.toNat = mi M 94 k.toNat from by simp [mi_si, mi_fil, mi_cpr, mi_sl, mi_sr, ml_sl, ml_si, ml_sr, ml_fil, ml_cpr]]
            have u270_5 := hI.a 94 (0) 13 (by decide) k.toNat
            refine j_iadd rfl ?_
            refine j_bipush rfl (by decide) ?_
            refine j_isub rfl ?_
            refine j_iconst rfl ?_
            refine j_iast (n := 24) rfl (hS.lt (by decide)) (hS.k (by decide) (by decide)) (hS.n (by decide) (by decide)) (by omega) (by omega) (by first | decide | omega) ?_
            refine j_goto (tgt := 299) rfl (by decide) ?_
            refine j_iconst rfl ?_
            refine j_iret rfl rfl ?_ rfl (Nat.le_refl _)
            exact hput q _ rfl (by omega) (by omega) (by omega) (by first | (exfalso; omega) | (unfold putX; rw [if_pos (by omega)]; done) | (unfold putX; rw [if_neg (by omega)]; done))
      · skip
        refine j_iconst rfl ?_
        refine j_iret rfl rfl ?_ rfl (Nat.le_refl _)
        exact hone (by omega) (by omega)


theorem SameP.trans {m M N : AM} (h : SameP m M) (h2 : SameP M N) : SameP m N := ⟨h2.1.trans h.1, h2.2.1.trans h.2.1, fun o ho => (h2.2.2 o ho).trans (h.2.2 o ho)⟩
/-- the reference's line k of box b is one that its parser makes -/
def LK (m : AM) (b k : Int) : Prop := (mi m 95 k.toNat ≤ mi m 96 k.toNat ∧ mi m 96 k.toNat ≤ mi m 97 k.toNat ∧ mi m 97 k.toNat ≤ 160) ∧ (mi m 95 k.toNat < mi m 96 k.toNat → sWF (cdX m) (mi m 96 k.toNat - mi m 95 k.toNat).toNat ((170 * b) + mi m 95 k.toNat) 0) ∧ sWF (cdX m) (mi m 97 k.toNat - mi m 96 k.toNat).toNat ((170 * b) + mi m 96 k.toNat) 0 ∧ (mi m 94 k.toNat < 10 → mi m 94 k.toNat ≤ 7 ∧ 2 ≤ mi m 88 ((8 * b) + mi m 94 k.toNat).toNat ∧ mi m 88 ((8 * b) + mi m 94 k.toNat).toNat ≤ 20)
theorem SameP.LK {m M : AM} (h : SameP m M) {b k : Int} (hl : LK m b k) : LK M b k := by
  obtain ⟨L, rfl⟩ := h.ex
  exact hl
theorem most_rng (m : AM) {b : Int} (h : 2 ≤ b) (h2 : b ≤ 20) : 1 ≤ FX12_mostOf m b ∧ FX12_mostOf m b ≤ 524287 := by
  have hb : b = 2 ∨ b = 3 ∨ b = 4 ∨ b = 5 ∨ b = 6 ∨ b = 7 ∨ b = 8 ∨ b = 9 ∨ b = 10 ∨ b = 11 ∨ b = 12 ∨ b = 13 ∨ b = 14 ∨ b = 15 ∨ b = 16 ∨ b = 17 ∨ b = 18 ∨ b = 19 ∨ b = 20 := by omega
  unfold FX12_mostOf
  rcases hb with rfl | rfl | rfl | rfl | rfl | rfl | rfl | rfl | rfl | rfl | rfl | rfl | rfl | rfl | rfl | rfl | rfl | rfl | rfl <;> decide +kernel
def mostX (m : AM) (b k : Int) : Int := if mi m 94 k.toNat ≥ 10 then 32767 else FX12_mostOf m (mi m 88 ((8 * b) + mi m 94 k.toNat).toNat)
theorem mostX_rng {m : AM} {b k : Int} (h : LK m b k) : 1 ≤ mostX m b k ∧ mostX m b k ≤ 524287 := by
  unfold mostX
  split
  · decide
  · have h1 := h.2.2.2 (by omega)
    exact most_rng m h1.2.1 h1.2.2
def watX (m : AM) (b l k : Int) : Int := if mi m 93 k.toNat ≠ 0 ∨ (b = mi m 86 48 ∧ z_iand (z_ishr (mi m 86 49) l) 1 = 1) then 1 else 0
def putX (m : AM) (b k v : Int) : AM :=
  if mi m 94 k.toNat ≥ 10 then si (si m 107 (((4 * b) + mi m 94 k.toNat) - 10).toNat v) 108 (((4 * b) + mi m 94 k.toNat) - 10).toNat 0 else si m 106 ((8 * b) + mi m 94 k.toNat).toNat v
theorem SameP.put {m M : AM} (h : SameP m M) (b k v : Int) : SameP (putX m b k v) (putX M b k v) := by
  unfold putX
  rw [h.mi 94]
  split
  · exact (h.si _ _ _).si _ _ _
  · exact h.si _ _ _
theorem z_l2i_of {v : Int} (h : -2147483648 ≤ v) (h2 : v < 2147483648) : z_l2i v = v := zi_toInt h h2
/-- what a number v does to the target of line l: the fault, the memory -/
def landM (m : AM) (b l k v : Int) : Int × AM :=
  if v > mostX m b k ∨ v < -mostX m b k - 1 then
    if watX m b l k = 1 then (0, putX m b k (if v > mostX m b k then mostX m b k else -mostX m b k - 1)) else (1, m)
  else (0, putX m b k v)
/-- the second part of a line -/
def doB (m : AM) (b l k : Int) : Int × AM :=
  if (eM m b (mi m 96 k.toNat) (mi m 97 k.toNat)).1 > 0 then ((eM m b (mi m 96 k.toNat) (mi m 97 k.toNat)).1, m)
  else landM m b l k (eM m b (mi m 96 k.toNat) (mi m 97 k.toNat)).2
def doM (m : AM) (b l : Int) : Int × AM :=
  if mi m 96 ((12 * b) + l).toNat > mi m 95 ((12 * b) + l).toNat then
    if (eM m b (mi m 95 ((12 * b) + l).toNat) (mi m 96 ((12 * b) + l).toNat)).1 > 0 then ((eM m b (mi m 95 ((12 * b) + l).toNat) (mi m 96 ((12 * b) + l).toNat)).1, m)
    else if (eM m b (mi m 95 ((12 * b) + l).toNat) (mi m 96 ((12 * b) + l).toNat)).2 = 0 then (0, m)
    else doB m b l ((12 * b) + l)
  else doB m b l ((12 * b) + l)
def RpD (m : AM) (D : Int × AM) : Option Vl → AM → Prop := fun r m' => SameP D.2 m' ∧ r = some (vI D.1)
theorem SameP.land {m M : AM} (h : SameP m M) (b l k v : Int) : (landM M b l k v).1 = (landM m b l k v).1 ∧ SameP (landM m b l k v).2 (landM M b l k v).2 := by
  have e1 : mostX M b k = mostX m b k := by unfold mostX FX12_mostOf; simp only [h.mi]
  have e2 : watX M b l k = watX m b l k := by unfold watX; simp only [h.mi]
  unfold landM
  simp only [e1, e2]
  split
  · split
    · exact ⟨rfl, h.put _ _ _⟩
    · exact ⟨rfl, h⟩
  · exact ⟨rfl, h.put _ _ _⟩

set_option maxRecDepth 20000 in
set_option maxHeartbeats 4000000 in
theorem lp_doLine_181 {G : QW} {M : AM} {b l k v p q : Int} (hRF : RF M) (hb0 : 0 ≤ b) (hb5 : b ≤ 5) (hl0 : 0 ≤ l) (hl1 : l ≤ 11) (hk : k = (12 * b) + l) (hLK : LK M b k) (hv0 : -1000000000 ≤ v) (hv1 : v ≤ 1000000000) (hp : (mi M 94 k.toNat ≥ 10 ∧ p = 1) ∨ (mi M 94 k.toNat < 10 ∧ p = 0)) (hq : q = mostX M b k) {Rp : Option Vl → AM → Prop} {w : Int} (hw : w = 0 ∨ w = 1)
    (hone : (v > q ∨ v < -q - 1) → w = 0 → Rp (some (vI 1)) M)
    (hput : ∀ (x : Int) (N : AM), N = N → (v > q → x = q ∧ w = 1) → (v < -q - 1 → x = -q - 1 ∧ w = 1) → (¬ v > q → ¬ v < -q - 1 → x = v) → N = putX M b k (z_l2i x) → Rp (some (vI 0)) N) : qJ G mX12_doLine { frames := 2, cells := 0, slots := 0, locals := 60 * 2 } (qF G Rp 0 0) 181 [(0, vR 86), (1, vI b), (2, vI l), (3, vI k), (5, vL v), (7, vI p), (8, vI q), (9, vI w)] [] M 0 0 := by
  obtain ⟨hS, hI, -⟩ := hRF
  have ht7 : mi M 94 k.toNat < 10 → mi M 94 k.toNat ≤ 7 := fun h => (hLK.2.2.2 h).1
  have hqr := mostX_rng hLK
  rw [← hq] at hqr
  refine j_lload rfl rfl ?_
  refine j_iload rfl rfl ?_
  refine j_i2l rfl (by omega) (by omega) ?_
  refine j_lc_gt (tgt := 202) rfl rfl (by decide) (by omega) (by omega) (by omega) (by omega) (fun hb186_1 => ?_) (fun hb186_1 => ?_)
  · skip
    refine j_iload rfl rfl ?_
    refine j_if_ne (tgt := 209) rfl (by decide) (by omega) (by omega) (fun hb204_1 => ?_) (fun hb204_1 => ?_)
    · skip
      refine j_lload rfl rfl ?_
      refine j_iload rfl rfl ?_
      refine j_i2l rfl (by omega) (by omega) ?_
      refine j_lc_le (tgt := 224) rfl rfl (by decide) (by omega) (by omega) (by omega) (by omega) (fun hb214_1 => ?_) (fun hb214_1 => ?_)
      · skip
        refine j_iload rfl rfl ?_
        refine j_ineg rfl ?_
        refine j_iconst rfl ?_
        refine j_isub rfl ?_
        refine j_i2l rfl (by omega) (by omega) ?_
        refine j_lstore rfl (by decide) ?_
        refine j_iload rfl rfl ?_
        refine j_if_eq (tgt := 280) rfl (by decide) (by omega) (by omega) (fun hb234_1 => ?_) (fun hb234_1 => ?_)
        · skip
          refine j_aload_n rfl rfl ?_
          refine j_getR (q := 106) rfl f_X12_69 rfl (hS.lt (by decide)) (hS.k (by decide) (by decide)) (hS.r (by decide)) ?_
          refine j_bipush rfl (by decide) ?_
          refine j_iload_n rfl rfl ?_
          refine j_imul rfl ?_
          refine j_aload_n rfl rfl ?_
          refine j_getR (q := 94) rfl f_X12_32 rfl (hS.lt (by decide)) (hS.k (by decide) (by decide)) (hS.r (by decide)) ?_
          refine j_iload_n rfl rfl ?_
          refine j_iald (n := 84) rfl (hS.lt (by decide)) (hS.k (by decide) (by decide)) (hS.n (by decide) (by decide)) (by omega) (by omega) (by decide) ?_
          have u293_1 := hI.a 94 (0) 13 (by decide) k.toNat
          refine j_iadd rfl ?_
          refine j_lload rfl rfl ?_
          refine j_l2iW rfl ?_
          have z297_1 := z_l2i_rng ((-q) - 1)
          refine j_iast (n := 48) rfl (hS.lt (by decide)) (hS.k (by decide) (by decide)) (hS.n (by decide) (by decide)) (by omega) (by omega) (by first | decide | omega) ?_
          refine j_iconst rfl ?_
          refine j_iret rfl rfl ?_ rfl (Nat.le_refl _)
          exact hput ((-q) - 1) _ rfl (by omega) (by omega) (by omega) (by first | (exfalso; omega) | (unfold putX; rw [if_pos (by omega)]; done) | (unfold putX; rw [if_neg (by omega)]; done))
        · skip
          refine j_aload_n rfl rfl ?_
          refine j_getR (q := 107) rfl f_X12_72 rfl (hS.lt (by decide)) (hS.k (by decide) (by decide)) (hS.r (by decide)) ?_
          refine j_iconst rfl ?_
          refine j_iload_n rfl rfl ?_
          refine j_imul rfl ?_
          refine j_aload_n rfl rfl ?_
          refine j_getR (q := 94) rfl f_X12_32 rfl (hS.lt (by decide)) (hS.k (by decide) (by decide)) (hS.r (by decide)) ?_
          refine j_iload_n rfl rfl ?_
          refine j_iald (n := 84) rfl (hS.lt (by decide)) (hS.k (by decide) (by decide)) (hS.n (by decide) (by decide)) (by omega) (by omega) (by decide) ?_
          have u249_1 := hI.a 94 (0) 13 (by decide) k.toNat
          refine j_iadd rfl ?_
          refine j_bipush rfl (by decide) ?_
          refine j_isub rfl ?_
          refine j_lload rfl rfl ?_
          refine j_l2iW rfl ?_
          have z256_1 := z_l2i_rng ((-q) - 1)
          refine j_iast (n := 24) rfl (hS.lt (by decide)) (hS.k (by decide) (by decide)) (hS.n (by decide) (by decide)) (by omega) (by omega) (by first | decide | omega) ?_
          refine j_aload_n rfl rfl ?_
          refine j_getR (q := 108) rfl f_X12_75 rfl (hS.lt (by decide)) (hS.k (by decide) (by decide)) (hS.r (by decide)) ?_
          refine j_iconst rfl ?_
          refine j_iload_n rfl rfl ?_
          refine j_imul rfl ?_
          refine j_aload_n rfl rfl ?_
          refine j_getR (q := 94) rfl f_X12_32 rfl (hS.lt (by decide)) (hS.k (by decide) (by decide)) (hS.r (by decide)) ?_
          refine j_iload_n rfl rfl ?_
          refine j_iald (n := 84) rfl (hS.lt (by decide)) (hS.k (by decide) (by decide)) (hS.n (by decide) (by decide)) (by omega) (by omega) (by decide) ?_
          rw [show mi (si M 107 (((4 * b) + (mi M 94 k.toNat)) - 10).toNat (z_l2i ((-q) - 1))) 94 k.toNat = mi M 94 k.toNat from by simp [mi_si, mi_fil, mi_cpr, mi_sl, mi_sr, ml_sl, ml_si, ml_sr, ml_fil, ml_cpr]]
          have u270_1 := hI.a 94 (0) 13 (by decide) k.toNat
          refine j_iadd rfl ?_
          refine j_bipush rfl (by decide) ?_
          refine j_isub rfl ?_
          refine j_iconst rfl ?_
          refine j_iast (n := 24) rfl (hS.lt (by decide)) (hS.k (by decide) (by decide)) (hS.n (by decide) (by decide)) (by omega) (by omega) (by first | decide | omega) ?_
          refine j_goto (tgt := 299) rfl (by decide) ?_
          refine j_iconst rfl ?_
          refine j_iret rfl rfl ?_ rfl (Nat.le_refl _)
          exact hput ((-q) - 1) _ rfl (by omega) (by omega) (by omega) (by first | (exfalso; omega) | (unfold putX; rw [if_pos (by omega)]; done) | (unfold putX; rw [if_neg (by omega)]; done))
      · skip
        refine j_iload rfl rfl ?_
        refine j_i2l rfl (by omega) (by omega) ?_
        refine j_goto (tgt := 230) rfl (by decide) ?_
        refine j_lstore rfl (by decide) ?_
        refine j_iload rfl rfl ?_
        refine j_if_eq (tgt := 280) rfl (by decide) (by omega) (by omega) (fun hb234_2 => ?_) (fun hb234_2 => ?_)
        · skip
          refine j_aload_n rfl rfl ?_
          refine j_getR (q := 106) rfl f_X12_69 rfl (hS.lt (by decide)) (hS.k (by decide) (by decide)) (hS.r (by decide)) ?_
          refine j_bipush rfl (by decide) ?_
          refine j_iload_n rfl rfl ?_
          refine j_imul rfl ?_
          refine j_aload_n rfl rfl ?_
          refine j_getR (q := 94) rfl f_X12_32 rfl (hS.lt (by decide)) (hS.k (by decide) (by decide)) (hS.r (by decide)) ?_
          refine j_iload_n rfl rfl ?_
          refine j_iald (n := 84) rfl (hS.lt (by decide)) (hS.k (by decide) (by decide)) (hS.n (by decide) (by decide)) (by omega) (by omega) (by decide) ?_
          have u293_2 := hI.a 94 (0) 13 (by decide) k.toNat
          refine j_iadd rfl ?_
          refine j_lload rfl rfl ?_
          refine j_l2iW rfl ?_
          have z297_2 := z_l2i_rng q
          refine j_iast (n := 48) rfl (hS.lt (by decide)) (hS.k (by decide) (by decide)) (hS.n (by decide) (by decide)) (by omega) (by omega) (by first | decide | omega) ?_
          refine j_iconst rfl ?_
          refine j_iret rfl rfl ?_ rfl (Nat.le_refl _)
          exact hput q _ rfl (by omega) (by omega) (by omega) (by first | (exfalso; omega) | (unfold putX; rw [if_pos (by omega)]; done) | (unfold putX; rw [if_neg (by omega)]; done))
        · skip
          refine j_aload_n rfl rfl ?_
          refine j_getR (q := 107) rfl f_X12_72 rfl (hS.lt (by decide)) (hS.k (by decide) (by decide)) (hS.r (by decide)) ?_
          refine j_iconst rfl ?_
          refine j_iload_n rfl rfl ?_
          refine j_imul rfl ?_
          refine j_aload_n rfl rfl ?_
          refine j_getR (q := 94) rfl f_X12_32 rfl (hS.lt (by decide)) (hS.k (by decide) (by decide)) (hS.r (by decide)) ?_
          refine j_iload_n rfl rfl ?_
          refine j_iald (n := 84) rfl (hS.lt (by decide)) (hS.k (by decide) (by decide)) (hS.n (by decide) (by decide)) (by omega) (by omega) (by decide) ?_
          have u249_2 := hI.a 94 (0) 13 (by decide) k.toNat
          refine j_iadd rfl ?_
          refine j_bipush rfl (by decide) ?_
          refine j_isub rfl ?_
          refine j_lload rfl rfl ?_
          refine j_l2iW rfl ?_
          have z256_2 := z_l2i_rng q
          refine j_iast (n := 24) rfl (hS.lt (by decide)) (hS.k (by decide) (by decide)) (hS.n (by decide) (by decide)) (by omega) (by omega) (by first | decide | omega) ?_
          refine j_aload_n rfl rfl ?_
          refine j_getR (q := 108) rfl f_X12_75 rfl (hS.lt (by decide)) (hS.k (by decide) (by decide)) (hS.r (by decide)) ?_
          refine j_iconst rfl ?_
          refine j_iload_n rfl rfl ?_
          refine j_imul rfl ?_
          refine j_aload_n rfl rfl ?_
          refine j_getR (q := 94) rfl f_X12_32 rfl (hS.lt (by decide)) (hS.k (by decide) (by decide)) (hS.r (by decide)) ?_
          refine j_iload_n rfl rfl ?_
          refine j_iald (n := 84) rfl (hS.lt (by decide)) (hS.k (by decide) (by decide)) (hS.n (by decide) (by decide)) (by omega) (by omega) (by decide) ?_
          rw [show mi (si M 107 (((4 * b) + (mi M 94 k.toNat)) - 10).toNat (z_l2i q)) 94 k.toNat = mi M 94 k.toNat from by simp [mi_si, mi_fil, mi_cpr, mi_sl, mi_sr, ml_sl, ml_si, ml_sr, ml_fil, ml_cpr]]
          have u270_2 := hI.a 94 (0) 13 (by decide) k.toNat
          refine j_iadd rfl ?_
          refine j_bipush rfl (by decide) ?_
          refine j_isub rfl ?_
          refine j_iconst rfl ?_
          refine j_iast (n := 24) rfl (hS.lt (by decide)) (hS.k (by decide) (by decide)) (hS.n (by decide) (by decide)) (by omega) (by omega) (by first | decide | omega) ?_
          refine j_goto (tgt := 299) rfl (by decide) ?_
          refine j_iconst rfl ?_
          refine j_iret rfl rfl ?_ rfl (Nat.le_refl _)
          exact hput q _ rfl (by omega) (by omega) (by omega) (by first | (exfalso; omega) | (unfold putX; rw [if_pos (by omega)]; done) | (unfold putX; rw [if_neg (by omega)]; done))
    · skip
      refine j_iconst rfl ?_
      refine j_iret rfl rfl ?_ rfl (Nat.le_refl _)
      exact hone (by omega) (by omega)
  · skip
    refine j_lload rfl rfl ?_
    refine j_iload rfl rfl ?_
    refine j_ineg rfl ?_
    refine j_iconst rfl ?_
    refine j_isub rfl ?_
    refine j_i2l rfl (by omega) (by omega) ?_
    refine j_lc_ge (tgt := 232) rfl rfl (by decide) (by omega) (by omega) (by omega) (by omega) (fun hb198_1 => ?_) (fun hb198_1 => ?_)
    · skip
      refine j_iload rfl rfl ?_
      refine j_if_eq (tgt := 280) rfl (by decide) (by omega) (by omega) (fun hb234_3 => ?_) (fun hb234_3 => ?_)
      · skip
        refine j_aload_n rfl rfl ?_
        refine j_getR (q := 106) rfl f_X12_69 rfl (hS.lt (by decide)) (hS.k (by decide) (by decide)) (hS.r (by decide)) ?_
        refine j_bipush rfl (by decide) ?_
        refine j_iload_n rfl rfl ?_
        refine j_imul rfl ?_
        refine j_aload_n rfl rfl ?_
        refine j_getR (q := 94) rfl f_X12_32 rfl (hS.lt (by decide)) (hS.k (by decide) (by decide)) (hS.r (by decide)) ?_
        refine j_iload_n rfl rfl ?_
        refine j_iald (n := 84) rfl (hS.lt (by decide)) (hS.k (by decide) (by decide)) (hS.n (by decide) (by decide)) (by omega) (by omega) (by decide) ?_
        have u293_3 := hI.a 94 (0) 13 (by decide) k.toNat
        refine j_iadd rfl ?_
        refine j_lload rfl rfl ?_
        refine j_l2iW rfl ?_
        have z297_3 := z_l2i_rng v
        refine j_iast (n := 48) rfl (hS.lt (by decide)) (hS.k (by decide) (by decide)) (hS.n (by decide) (by decide)) (by omega) (by omega) (by first | decide | omega) ?_
        refine j_iconst rfl ?_
        refine j_iret rfl rfl ?_ rfl (Nat.le_refl _)
        exact hput v _ rfl (by omega) (by omega) (by omega) (by first | (exfalso; omega) | (unfold putX; rw [if_pos (by omega)]; done) | (unfold putX; rw [if_neg (by omega)]; done))
      · skip
        refine j_aload_n rfl rfl ?_
        refine j_getR (q := 107) rfl f_X12_72 rfl (hS.lt (by decide)) (hS.k (by decide) (by decide)) (hS.r (by decide)) ?_
        refine j_iconst rfl ?_
        refine j_iload_n rfl rfl ?_
        refine j_imul rfl ?_
        refine j_aload_n rfl rfl ?_
        refine j_getR (q := 94) rfl f_X12_32 rfl (hS.lt (by decide)) (hS.k (by decide) (by decide)) (hS.r (by decide)) ?_
        refine j_iload_n rfl rfl ?_
        refine j_iald (n := 84) rfl (hS.lt (by decide)) (hS.k (by decide) (by decide)) (hS.n (by decide) (by decide)) (by omega) (by omega) (by decide) ?_
        have u249_3 := hI.a 94 (0) 13 (by decide) k.toNat
        refine j_iadd rfl ?_
        refine j_bipush rfl (by decide) ?_
        refine j_isub rfl ?_
        refine j_lload rfl rfl ?_
        refine j_l2iW rfl ?_
        have z256_3 := z_l2i_rng v
        refine j_iast (n := 24) rfl (hS.lt (by decide)) (hS.k (by decide) (by decide)) (hS.n (by decide) (by decide)) (by omega) (by omega) (by first | decide | omega) ?_
        refine j_aload_n rfl rfl ?_
        refine j_getR (q := 108) rfl f_X12_75 rfl (hS.lt (by decide)) (hS.k (by decide) (by decide)) (hS.r (by decide)) ?_
        refine j_iconst rfl ?_
        refine j_iload_n rfl rfl ?_
        refine j_imul rfl ?_
        refine j_aload_n rfl rfl ?_
        refine j_getR (q := 94) rfl f_X12_32 rfl (hS.lt (by decide)) (hS.k (by decide) (by decide)) (hS.r (by decide)) ?_
        refine j_iload_n rfl rfl ?_
        refine j_iald (n := 84) rfl (hS.lt (by decide)) (hS.k (by decide) (by decide)) (hS.n (by decide) (by decide)) (by omega) (by omega) (by decide) ?_
        rw [show mi (si M 107 (((4 * b) + (mi M 94 k.toNat)) - 10).toNat (z_l2i v)) 94 k.toNat = mi M 94 k.toNat from by simp [mi_si, mi_fil, mi_cpr, mi_sl, mi_sr, ml_sl, ml_si, ml_sr, ml_fil, ml_cpr]]
        have u270_3 := hI.a 94 (0) 13 (by decide) k.toNat
        refine j_iadd rfl ?_
        refine j_bipush rfl (by decide) ?_
        refine j_isub rfl ?_
        refine j_iconst rfl ?_
        refine j_iast (n := 24) rfl (hS.lt (by decide)) (hS.k (by decide) (by decide)) (hS.n (by decide) (by decide)) (by omega) (by omega) (by first | decide | omega) ?_
        refine j_goto (tgt := 299) rfl (by decide) ?_
        refine j_iconst rfl ?_
        refine j_iret rfl rfl ?_ rfl (Nat.le_refl _)
        exact hput v _ rfl (by omega) (by omega) (by omega) (by first | (exfalso; omega) | (unfold putX; rw [if_pos (by omega)]; done) | (unfold putX; rw [if_neg (by omega)]; done))
    · skip
      refine j_iload rfl rfl ?_
      refine j_if_ne (tgt := 209) rfl (by decide) (by omega) (by omega) (fun hb204_2 => ?_) (fun hb204_2 => ?_)
      · skip
        refine j_lload rfl rfl ?_
        refine j_iload rfl rfl ?_
        refine j_i2l rfl (by omega) (by omega) ?_
        refine j_lc_le (tgt := 224) rfl rfl (by decide) (by omega) (by omega) (by omega) (by omega) (fun hb214_2 => ?_) (fun hb214_2 => ?_)
        · skip
          refine j_iload rfl rfl ?_
          refine j_ineg rfl ?_
          refine j_iconst rfl ?_
          refine j_isub rfl ?_
          refine j_i2l rfl (by omega) (by omega) ?_
          refine j_lstore rfl (by decide) ?_
          refine j_iload rfl rfl ?_
          refine j_if_eq (tgt := 280) rfl (by decide) (by omega) (by omega) (fun hb234_4 => ?_) (fun hb234_4 => ?_)
          · skip
            refine j_aload_n rfl rfl ?_
            refine j_getR (q := 106) rfl f_X12_69 rfl (hS.lt (by decide)) (hS.k (by decide) (by decide)) (hS.r (by decide)) ?_
            refine j_bipush rfl (by decide) ?_
            refine j_iload_n rfl rfl ?_
            refine j_imul rfl ?_
            refine j_aload_n rfl rfl ?_
            refine j_getR (q := 94) rfl f_X12_32 rfl (hS.lt (by decide)) (hS.k (by decide) (by decide)) (hS.r (by decide)) ?_
            refine j_iload_n rfl rfl ?_
            refine j_iald (n := 84) rfl (hS.lt (by decide)) (hS.k (by decide) (by decide)) (hS.n (by decide) (by decide)) (by omega) (by omega) (by decide) ?_
            have u293_4 := hI.a 94 (0) 13 (by decide) k.toNat
            refine j_iadd rfl ?_
            refine j_lload rfl rfl ?_
            refine j_l2iW rfl ?_
            have z297_4 := z_l2i_rng ((-q) - 1)
            refine j_iast (n := 48) rfl (hS.lt (by decide)) (hS.k (by decide) (by decide)) (hS.n (by decide) (by decide)) (by omega) (by omega) (by first | decide | omega) ?_
            refine j_iconst rfl ?_
            refine j_iret rfl rfl ?_ rfl (Nat.le_refl _)
            exact hput ((-q) - 1) _ rfl (by omega) (by omega) (by omega) (by first | (exfalso; omega) | (unfold putX; rw [if_pos (by omega)]; done) | (unfold putX; rw [if_neg (by omega)]; done))
          · skip
            refine j_aload_n rfl rfl ?_
            refine j_getR (q := 107) rfl f_X12_72 rfl (hS.lt (by decide)) (hS.k (by decide) (by decide)) (hS.r (by decide)) ?_
            refine j_iconst rfl ?_
            refine j_iload_n rfl rfl ?_
            refine j_imul rfl ?_
            refine j_aload_n rfl rfl ?_
            refine j_getR (q := 94) rfl f_X12_32 rfl (hS.lt (by decide)) (hS.k (by decide) (by decide)) (hS.r (by decide)) ?_
            refine j_iload_n rfl rfl ?_
            refine j_iald (n := 84) rfl (hS.lt (by decide)) (hS.k (by decide) (by decide)) (hS.n (by decide) (by decide)) (by omega) (by omega) (by decide) ?_
            have u249_4 := hI.a 94 (0) 13 (by decide) k.toNat
            refine j_iadd rfl ?_
            refine j_bipush rfl (by decide) ?_
            refine j_isub rfl ?_
            refine j_lload rfl rfl ?_
            refine j_l2iW rfl ?_
            have z256_4 := z_l2i_rng ((-q) - 1)
            refine j_iast (n := 24) rfl (hS.lt (by decide)) (hS.k (by decide) (by decide)) (hS.n (by decide) (by decide)) (by omega) (by omega) (by first | decide | omega) ?_
            refine j_aload_n rfl rfl ?_
            refine j_getR (q := 108) rfl f_X12_75 rfl (hS.lt (by decide)) (hS.k (by decide) (by decide)) (hS.r (by decide)) ?_
            refine j_iconst rfl ?_
            refine j_iload_n rfl rfl ?_
            refine j_imul rfl ?_
            refine j_aload_n rfl rfl ?_
            refine j_getR (q := 94) rfl f_X12_32 rfl (hS.lt (by decide)) (hS.k (by decide) (by decide)) (hS.r (by decide)) ?_
            refine j_iload_n rfl rfl ?_
            refine j_iald (n := 84) rfl (hS.lt (by decide)) (hS.k (by decide) (by decide)) (hS.n (by decide) (by decide)) (by omega) (by omega) (by decide) ?_
            rw [show mi (si M 107 (((4 * b) + (mi M 94 k.toNat)) - 10).toNat (z_l2i ((-q) - 1))) 94 k.toNat = mi M 94 k.toNat from by simp [mi_si, mi_fil, mi_cpr, mi_sl, mi_sr, ml_sl, ml_si, ml_sr, ml_fil, ml_cpr]]
            have u270_4 := hI.a 94 (0) 13 (by decide) k.toNat
            refine j_iadd rfl ?_
            refine j_bipush rfl (by decide) ?_
            refine j_isub rfl ?_
            refine j_iconst rfl ?_
            refine j_iast (n := 24) rfl (hS.lt (by decide)) (hS.k (by decide) (by decide)) (hS.n (by decide) (by decide)) (by omega) (by omega) (by first | decide | omega) ?_
            refine j_goto (tgt := 299) rfl (by decide) ?_
            refine j_iconst rfl ?_
            refine j_iret rfl rfl ?_ rfl (Nat.le_refl _)
            exact hput ((-q) - 1) _ rfl (by omega) (by omega) (by omega) (by first | (exfalso; omega) | (unfold putX; rw [if_pos (by omega)]; done) | (unfold putX; rw [if_neg (by omega)]; done))
        · skip
          refine j_iload rfl rfl ?_
          refine j_i2l rfl (by omega) (by omega) ?_
          refine j_goto (tgt := 230) rfl (by decide) ?_
          refine j_lstore rfl (by decide) ?_
          refine j_iload rfl rfl ?_
          refine j_if_eq (tgt := 280) rfl (by decide) (by omega) (by omega) (fun hb234_5 => ?_) (fun hb234_5 => ?_)
          · skip
            refine j_aload_n rfl rfl ?_
            refine j_getR (q := 106) rfl f_X12_69 rfl (hS.lt (by decide)) (hS.k (by decide) (by decide)) (hS.r (by decide)) ?_
            refine j_bipush rfl (by decide) ?_
            refine j_iload_n rfl rfl ?_
            refine j_imul rfl ?_
            refine j_aload_n rfl rfl ?_
            refine j_getR (q := 94) rfl f_X12_32 rfl (hS.lt (by decide)) (hS.k (by decide) (by decide)) (hS.r (by decide)) ?_
            refine j_iload_n rfl rfl ?_
            refine j_iald (n := 84) rfl (hS.lt (by decide)) (hS.k (by decide) (by decide)) (hS.n (by decide) (by decide)) (by omega) (by omega) (by decide) ?_
            have u293_5 := hI.a 94 (0) 13 (by decide) k.toNat
            refine j_iadd rfl ?_
            refine j_lload rfl rfl ?_
            refine j_l2iW rfl ?_
            have z297_5 := z_l2i_rng q
            refine j_iast (n := 48) rfl (hS.lt (by decide)) (hS.k (by decide) (by decide)) (hS.n (by decide) (by decide)) (by omega) (by omega) (by first | decide | omega) ?_
            refine j_iconst rfl ?_
            refine j_iret rfl rfl ?_ rfl (Nat.le_refl _)
            exact hput q _ rfl (by omega) (by omega) (by omega) (by first | (exfalso; omega) | (unfold putX; rw [if_pos (by omega)]; done) | (unfold putX; rw [if_neg (by omega)]; done))
          · skip
            refine j_aload_n rfl rfl ?_
            refine j_getR (q := 107) rfl f_X12_72 rfl (hS.lt (by decide)) (hS.k (by decide) (by decide)) (hS.r (by decide)) ?_
            refine j_iconst rfl ?_
            refine j_iload_n rfl rfl ?_
            refine j_imul rfl ?_
            refine j_aload_n rfl rfl ?_
            refine j_getR (q := 94) rfl f_X12_32 rfl (hS.lt (by decide)) (hS.k (by decide) (by decide)) (hS.r (by decide)) ?_
            refine j_iload_n rfl rfl ?_
            refine j_iald (n := 84) rfl (hS.lt (by decide)) (hS.k (by decide) (by decide)) (hS.n (by decide) (by decide)) (by omega) (by omega) (by decide) ?_
            have u249_5 := hI.a 94 (0) 13 (by decide) k.toNat
            refine j_iadd rfl ?_
            refine j_bipush rfl (by decide) ?_
            refine j_isub rfl ?_
            refine j_lload rfl rfl ?_
            refine j_l2iW rfl ?_
            have z256_5 := z_l2i_rng q
            refine j_iast (n := 24) rfl (hS.lt (by decide)) (hS.k (by decide) (by decide)) (hS.n (by decide) (by decide)) (by omega) (by omega) (by first | decide | omega) ?_
            refine j_aload_n rfl rfl ?_
            refine j_getR (q := 108) rfl f_X12_75 rfl (hS.lt (by decide)) (hS.k (by decide) (by decide)) (hS.r (by decide)) ?_
            refine j_iconst rfl ?_
            refine j_iload_n rfl rfl ?_
            refine j_imul rfl ?_
            refine j_aload_n rfl rfl ?_
            refine j_getR (q := 94) rfl f_X12_32 rfl (hS.lt (by decide)) (hS.k (by decide) (by decide)) (hS.r (by decide)) ?_
            refine j_iload_n rfl rfl ?_
            refine j_iald (n := 84) rfl (hS.lt (by decide)) (hS.k (by decide) (by decide)) (hS.n (by decide) (by decide)) (by omega) (by omega) (by decide) ?_
            rw [show mi (si M 107 (((4 * b) + (mi M 94 k.toNat)) - 10).toNat (z_l2i q)) 94 k.toNat = mi M 94 k.toNat from by simp [mi_si, mi_fil, mi_cpr, mi_sl, mi_sr, ml_sl, ml_si, ml_sr, ml_fil, ml_cpr]]
            have u270_5 := hI.a 94 (0) 13 (by decide) k.toNat
            refine j_iadd rfl ?_
            refine j_bipush rfl (by decide) ?_
            refine j_isub rfl ?_
            refine j_iconst rfl ?_
            refine j_iast (n := 24) rfl (hS.lt (by decide)) (hS.k (by decide) (by decide)) (hS.n (by decide) (by decide)) (by omega) (by omega) (by first | decide | omega) ?_
            refine j_goto (tgt := 299) rfl (by decide) ?_
            refine j_iconst rfl ?_
            refine j_iret rfl rfl ?_ rfl (Nat.le_refl _)
            exact hput q _ rfl (by omega) (by omega) (by omega) (by first | (exfalso; omega) | (unfold putX; rw [if_pos (by omega)]; done) | (unfold putX; rw [if_neg (by omega)]; done))
      · skip
        refine j_iconst rfl ?_
        refine j_iret rfl rfl ?_ rfl (Nat.le_refl _)
        exact hone (by omega) (by omega)

set_option maxRecDepth 20000 in
set_option maxHeartbeats 4000000 in
theorem lp_doLine_145 {G : QW} {M : AM} {b l k v p q : Int} (hRF : RF M) (hb0 : 0 ≤ b) (hb5 : b ≤ 5) (hl0 : 0 ≤ l) (hl1 : l ≤ 11) (hk : k = (12 * b) + l) (hLK : LK M b k) (hv0 : -1000000000 ≤ v) (hv1 : v ≤ 1000000000) (hp : (mi M 94 k.toNat ≥ 10 ∧ p = 1) ∨ (mi M 94 k.toNat < 10 ∧ p = 0)) (hq : q = mostX M b k) {Rp : Option Vl → AM → Prop}
    (hone : (v > q ∨ v < -q - 1) → watX M b l k = 0 → Rp (some (vI 1)) M)
    (hput : ∀ (x : Int) (N : AM), N = N → (v > q → x = q ∧ watX M b l k = 1) → (v < -q - 1 → x = -q - 1 ∧ watX M b l k = 1) → (¬ v > q → ¬ v < -q - 1 → x = v) → N = putX M b k (z_l2i x) → Rp (some (vI 0)) N) : qJ G mX12_doLine { frames := 2, cells := 0, slots := 0, locals := 60 * 2 } (qF G Rp 0 0) 145 [(0, vR 86), (1, vI b), (2, vI l), (3, vI k), (5, vL v), (7, vI p), (8, vI q)] [] M 0 0 := by
  have hRF0 := hRF
  obtain ⟨hS, hI, -⟩ := hRF
  have ht7 : mi M 94 k.toNat < 10 → mi M 94 k.toNat ≤ 7 := fun h => (hLK.2.2.2 h).1
  have hqr := mostX_rng hLK
  rw [← hq] at hqr
  refine j_aload_n rfl rfl ?_
  refine j_getR (q := 93) rfl f_X12_29 rfl (hS.lt (by decide)) (hS.k (by decide) (by decide)) (hS.r (by decide)) ?_
  refine j_iload_n rfl rfl ?_
  refine j_zald (n := 84) rfl (hS.lt (by decide)) (hS.k (by decide) (by decide)) (hS.n (by decide) (by decide)) (by omega) (by omega) (by decide) ?_
  have u150_1 := hI.a 93 (0) 1 (by decide) k.toNat
  refine j_if_ne (tgt := 174) rfl (by decide) (by omega) (by omega) (fun hb151_1 => ?_) (fun hb151_1 => ?_)
  · skip
    refine j_iconst rfl ?_
    refine j_goto (tgt := 179) rfl (by decide) ?_
    refine j_istore rfl (by decide) ?_
    have hW : watX M b l k = 1 := by unfold watX; first | (rw [if_pos (by omega)]; done) | (rw [if_neg (by omega)]; done)
    refine j_loc (ls' := [(0, vR 86), (1, vI b), (2, vI l), (3, vI k), (5, vL v), (7, vI p), (8, vI q), (9, vI 1)]) rfl ?_
    exact lp_doLine_181 hRF0 hb0 hb5 hl0 hl1 hk hLK hv0 hv1 hp hq (Or.inr rfl) (fun h e => hone h (by omega)) (fun x N e h1 h2 h3 h4 => hput x N e (fun h => ⟨(h1 h).1, hW.trans (h1 h).2⟩) (fun h => ⟨(h2 h).1, hW.trans (h2 h).2⟩) h3 h4)
  · skip
    refine j_iload_n rfl rfl ?_
    refine j_aload_n rfl rfl ?_
    refine j_getI rfl f_X12_309 rfl (hS.lt (by decide)) (hS.k (by decide) (by decide)) ?_
    have u156_1 := mi_rng M 86 48
    refine j_icmp_ne (tgt := 178) rfl (by decide) (by omega) (by omega) (by omega) (by omega) (fun hb159_1 => ?_) (fun hb159_1 => ?_)
    · skip
      refine j_iconst rfl ?_
      refine j_istore rfl (by decide) ?_
      have hW : watX M b l k = 0 := by unfold watX; first | (rw [if_pos (by omega)]; done) | (rw [if_neg (by omega)]; done)
      refine j_loc (ls' := [(0, vR 86), (1, vI b), (2, vI l), (3, vI k), (5, vL v), (7, vI p), (8, vI q), (9, vI 0)]) rfl ?_
      exact lp_doLine_181 hRF0 hb0 hb5 hl0 hl1 hk hLK hv0 hv1 hp hq (Or.inl rfl) (fun h e => hone h (by omega)) (fun x N e h1 h2 h3 h4 => hput x N e (fun h => ⟨(h1 h).1, hW.trans (h1 h).2⟩) (fun h => ⟨(h2 h).1, hW.trans (h2 h).2⟩) h3 h4)
    · skip
      refine j_aload_n rfl rfl ?_
      refine j_getI rfl f_X12_343 rfl (hS.lt (by decide)) (hS.k (by decide) (by decide)) ?_
      have u163_1 := mi_rng M 86 49
      refine j_iload_n rfl rfl ?_
      refine j_ishr rfl ?_
      have z167_1 := z_ishr_rng (mi M 86 49) l
      refine j_iconst rfl ?_
      refine j_iand rfl ?_
      have z169_1 := z_iand_rng (z_ishr (mi M 86 49) l) 1
      refine j_iconst rfl ?_
      refine j_icmp_ne (tgt := 178) rfl (by decide) (by omega) (by omega) (by omega) (by omega) (fun hb171_1 => ?_) (fun hb171_1 => ?_)
      · skip
        refine j_iconst rfl ?_
        refine j_istore rfl (by decide) ?_
        have hW : watX M b l k = 0 := by unfold watX; first | (rw [if_pos (by omega)]; done) | (rw [if_neg (by omega)]; done)
        refine j_loc (ls' := [(0, vR 86), (1, vI b), (2, vI l), (3, vI k), (5, vL v), (7, vI p), (8, vI q), (9, vI 0)]) rfl ?_
        exact lp_doLine_181 hRF0 hb0 hb5 hl0 hl1 hk hLK hv0 hv1 hp hq (Or.inl rfl) (fun h e => hone h (by omega)) (fun x N e h1 h2 h3 h4 => hput x N e (fun h => ⟨(h1 h).1, hW.trans (h1 h).2⟩) (fun h => ⟨(h2 h).1, hW.trans (h2 h).2⟩) h3 h4)
      · skip
        refine j_iconst rfl ?_
        refine j_goto (tgt := 179) rfl (by decide) ?_
        refine j_istore rfl (by decide) ?_
        have hW : watX M b l k = 1 := by unfold watX; first | (rw [if_pos (by omega)]; done) | (rw [if_neg (by omega)]; done)
        refine j_loc (ls' := [(0, vR 86), (1, vI b), (2, vI l), (3, vI k), (5, vL v), (7, vI p), (8, vI q), (9, vI 1)]) rfl ?_
        exact lp_doLine_181 hRF0 hb0 hb5 hl0 hl1 hk hLK hv0 hv1 hp hq (Or.inr rfl) (fun h e => hone h (by omega)) (fun x N e h1 h2 h3 h4 => hput x N e (fun h => ⟨(h1 h).1, hW.trans (h1 h).2⟩) (fun h => ⟨(h2 h).1, hW.trans (h2 h).2⟩) h3 h4)

set_option maxRecDepth 20000 in
set_option maxHeartbeats 4000000 in
theorem lp_doLine_60 {G : QW} {m : AM} {b l k : Int} (hRF : RF m) (hb0 : 0 ≤ b) (hb5 : b ≤ 5) (hl0 : 0 ≤ l) (hl1 : l ≤ 11) (hk : k = (12 * b) + l) (hLK : LK m b k) {Rp : Option Vl → AM → Prop} (hfin : ∀ r N, RpD m (doB m b l k) r N → Rp r N) : qJ G mX12_doLine { frames := 2, cells := 0, slots := 0, locals := 60 * 2 } (qF G Rp 0 0) 60 [(0, vR 86), (1, vI b), (2, vI l), (3, vI k)] [] m 0 0 := by
  have hRF0 := hRF
  obtain ⟨hS, hI, -⟩ := hRF
  have hord := hLK.1
  have hi95 := hI.a 95 0 160 (by decide) k.toNat
  refine j_aload_n rfl rfl ?_
  refine j_iload_n rfl rfl ?_
  refine j_aload_n rfl rfl ?_
  refine j_getR (q := 96) rfl f_X12_38 rfl (hS.lt (by decide)) (hS.k (by decide) (by decide)) (hS.r (by decide)) ?_
  refine j_iload_n rfl rfl ?_
  refine j_iald (n := 84) rfl (hS.lt (by decide)) (hS.k (by decide) (by decide)) (hS.n (by decide) (by decide)) (by omega) (by omega) (by decide) ?_
  have u67_1 := hI.a 96 (0) 160 (by decide) k.toNat
  refine j_aload_n rfl rfl ?_
  refine j_getR (q := 97) rfl f_X12_41 rfl (hS.lt (by decide)) (hS.k (by decide) (by decide)) (hS.r (by decide)) ?_
  refine j_iload_n rfl rfl ?_
  refine j_iald (n := 84) rfl (hS.lt (by decide)) (hS.k (by decide) (by decide)) (hS.n (by decide) (by decide)) (by omega) (by omega) (by decide) ?_
  have u73_1 := hI.a 97 (0) 170 (by decide) k.toNat
  refine j_callV (ci := 12) rfl okX12_worked c_X12_336 (ct_X12_workedE hRF0 hb0 hb5 (by omega) (by omega) (by omega) (by omega) hLK.2.2.1) rfl rfl (hS.lt (by decide)) (hS.k (by decide) (by decide)) (by decide) rfl (Nat.le_of_ble_eq_true rfl) (by decide) (by decide) ?_
  rintro vq M ⟨hs, e1, h1⟩
  rw [e1]
  clear e1
  simp only [Option.toList_some, Option.toList_none, List.cons_append, List.nil_append]
  have hRM := hs.RF hRF0
  have hRM0 := hRM
  obtain ⟨hS, hI, -⟩ := hRM0
  have hLM := hs.LK hLK
  have hrr := eM_r m b (mi m 96 k.toNat) (mi m 97 k.toNat)
  refine j_istore rfl (by decide) ?_
  refine j_iload rfl rfl ?_
  refine j_if_le (tgt := 87) rfl (by decide) (by omega) (by omega) (fun hb81_1 => ?_) (fun hb81_1 => ?_)
  · skip
    refine j_aload_n rfl rfl ?_
    refine j_getR (q := 115) rfl f_X12_96 rfl (hS.lt (by decide)) (hS.k (by decide) (by decide)) (hS.r (by decide)) ?_
    refine j_iconst rfl ?_
    refine j_lald (n := 170) rfl (hS.lt (by decide)) (hS.k (by decide) (by decide)) (hS.n (by decide) (by decide)) (by omega) (by omega) (by decide) ?_
    have u92_1 := ml_rng M 115 (0 : Int).toNat
    refine j_lstore rfl (by decide) ?_
    have hnf : ¬ (eM m b (mi m 96 k.toNat) (mi m 97 k.toNat)).1 > 0 := by omega
    obtain ⟨hv, hv0, hv1⟩ := h1 (by omega)
    have hv : (ml M 115 (0 : Int).toNat) = (eM m b (mi m 96 k.toNat) (mi m 97 k.toNat)).2 := hv
    have hm7 : mi M 94 k.toNat < 10 → mi M 94 k.toNat ≤ 7 := fun h => (hLM.2.2.2 h).1
    have K1 : ∀ q, q = mostX M b k → ((ml M 115 (0 : Int).toNat) > q ∨ (ml M 115 (0 : Int).toNat) < -q - 1) → watX M b l k = 0 → Rp (some (vI 1)) M := by
      intro q hq hh hw
      refine hfin _ _ ?_
      have e := hs.land b l k (eM m b (mi m 96 k.toNat) (mi m 97 k.toNat)).2
      have hL : landM M b l k (eM m b (mi m 96 k.toNat) (mi m 97 k.toNat)).2 = (1, M) := by
        unfold landM
        rw [← hq, ← hv, if_pos hh, if_neg (by omega)]
      rw [hL] at e
      unfold RpD doB
      rw [if_neg hnf]
      exact ⟨e.2, congrArg (fun z => some (vI z)) e.1⟩
    have K2 : ∀ q, q = mostX M b k → ∀ (x : Int) (N : AM), N = N → ((ml M 115 (0 : Int).toNat) > q → x = q ∧ watX M b l k = 1) → ((ml M 115 (0 : Int).toNat) < -q - 1 → x = -q - 1 ∧ watX M b l k = 1) → (¬ (ml M 115 (0 : Int).toNat) > q → ¬ (ml M 115 (0 : Int).toNat) < -q - 1 → x = (ml M 115 (0 : Int).toNat)) → N = putX M b k (z_l2i x) → Rp (some (vI 0)) N := by
      intro q hq x N _ h2 h3 h4 hN
      have hqr := mostX_rng hLM
      rw [← hq] at hqr
      have hx3 : x = q ∨ x = -q - 1 ∨ x = (ml M 115 (0 : Int).toNat) := by
        by_cases c1 : (ml M 115 (0 : Int).toNat) > q
        · exact Or.inl (h2 c1).1
        · by_cases c2 : (ml M 115 (0 : Int).toNat) < -q - 1
          · exact Or.inr (Or.inl (h3 c2).1)
          · exact Or.inr (Or.inr (h4 c1 c2))
      have hx : z_l2i x = x := z_l2i_of (by omega) (by omega)
      refine hfin _ _ ?_
      have e := hs.land b l k (eM m b (mi m 96 k.toNat) (mi m 97 k.toNat)).2
      have hL : landM M b l k (eM m b (mi m 96 k.toNat) (mi m 97 k.toNat)).2 = (0, N) := by
        unfold landM
        rw [← hq, ← hv]
        by_cases c : (ml M 115 (0 : Int).toNat) > q ∨ (ml M 115 (0 : Int).toNat) < -q - 1
        · have hw : watX M b l k = 1 := by
            rcases c with c | c
            · exact (h2 c).2
            · exact (h3 c).2
          rw [if_pos c, if_pos hw, hN, hx]
          by_cases c1 : (ml M 115 (0 : Int).toNat) > q
          · rw [if_pos c1, (h2 c1).1]
          · rw [if_neg c1, (h3 (c.resolve_left c1)).1]
        · rw [if_neg c, hN, hx, h4 (fun q => c (Or.inl q)) (fun q => c (Or.inr q))]
      rw [hL] at e
      unfold RpD doB
      rw [if_neg hnf]
      exact ⟨e.2, congrArg (fun z => some (vI z)) e.1⟩
    refine j_aload_n rfl rfl ?_
    refine j_getR (q := 94) rfl f_X12_32 rfl (hS.lt (by decide)) (hS.k (by decide) (by decide)) (hS.r (by decide)) ?_
    refine j_iload_n rfl rfl ?_
    refine j_iald (n := 84) rfl (hS.lt (by decide)) (hS.k (by decide) (by decide)) (hS.n (by decide) (by decide)) (by omega) (by omega) (by decide) ?_
    have u100_1 := hI.a 94 (0) 13 (by decide) k.toNat
    refine j_bipush rfl (by decide) ?_
    refine j_icmp_lt (tgt := 110) rfl (by decide) (by omega) (by omega) (by omega) (by omega) (fun hb103_1 => ?_) (fun hb103_1 => ?_)
    · skip
      refine j_iconst rfl ?_
      refine j_istore rfl (by decide) ?_
      refine j_iload rfl rfl ?_
      refine j_if_eq (tgt := 124) rfl (by decide) (by omega) (by omega) (fun hb115_1 => ?_) (fun hb115_1 => ?_)
      · skip
        refine j_aload_n rfl rfl ?_
        refine j_getR (q := 88) rfl f_X12_13 rfl (hS.lt (by decide)) (hS.k (by decide) (by decide)) (hS.r (by decide)) ?_
        refine j_bipush rfl (by decide) ?_
        refine j_iload_n rfl rfl ?_
        refine j_imul rfl ?_
        refine j_aload_n rfl rfl ?_
        refine j_getR (q := 94) rfl f_X12_32 rfl (hS.lt (by decide)) (hS.k (by decide) (by decide)) (hS.r (by decide)) ?_
        refine j_iload_n rfl rfl ?_
        refine j_iald (n := 84) rfl (hS.lt (by decide)) (hS.k (by decide) (by decide)) (hS.n (by decide) (by decide)) (by omega) (by omega) (by decide) ?_
        have u137_1 := hI.a 94 (0) 13 (by decide) k.toNat
        refine j_iadd rfl ?_
        refine j_iald (n := 48) rfl (hS.lt (by decide)) (hS.k (by decide) (by decide)) (hS.n (by decide) (by decide)) (by omega) (by omega) (by decide) ?_
        have u139_1 := hI.a 88 (0) 20 (by decide) ((8 * b) + (mi M 94 k.toNat)).toNat
        refine j_callS (As := [_]) rfl okX12_mostOf c_X12_339 (ct_X12_mostOf (by omega) (by omega)) rfl rfl (Nat.le_of_ble_eq_true rfl) (by decide) (by decide) ?_
        rintro vq mq ⟨e1, e2⟩
        rw [e1, e2]
        clear e1 e2
        simp only [Option.toList_some, Option.toList_none, List.cons_append, List.nil_append]
        refine j_istore rfl (by decide) ?_
        refine j_loc (ls' := [(0, vR 86), (1, vI b), (2, vI l), (3, vI k), (5, vL (ml M 115 (0 : Int).toNat)), (7, vI 0), (8, vI (FX12_mostOf M (mi M 88 ((8 * b) + (mi M 94 k.toNat)).toNat)))]) rfl ?_
        first
          | (exfalso; omega)
          | (have hq : (FX12_mostOf M (mi M 88 ((8 * b) + (mi M 94 k.toNat)).toNat)) = mostX M b k := by
               unfold mostX
               first | (rw [if_pos (by omega)]; done) | (rw [if_neg (by omega)]; done)
             exact lp_doLine_145 hRM hb0 hb5 hl0 hl1 hk hLM (by omega) (by omega) (by omega) hq (K1 _ hq) (K2 _ hq))
      · skip
        refine j_sipush rfl (by decide) ?_
        refine j_goto (tgt := 143) rfl (by decide) ?_
        refine j_istore rfl (by decide) ?_
        refine j_loc (ls' := [(0, vR 86), (1, vI b), (2, vI l), (3, vI k), (5, vL (ml M 115 (0 : Int).toNat)), (7, vI 0), (8, vI 32767)]) rfl ?_
        first
          | (exfalso; omega)
          | (have hq : 32767 = mostX M b k := by
               unfold mostX
               first | (rw [if_pos (by omega)]; done) | (rw [if_neg (by omega)]; done)
             exact lp_doLine_145 hRM hb0 hb5 hl0 hl1 hk hLM (by omega) (by omega) (by omega) hq (K1 _ hq) (K2 _ hq))
    · skip
      refine j_iconst rfl ?_
      refine j_goto (tgt := 111) rfl (by decide) ?_
      refine j_istore rfl (by decide) ?_
      refine j_iload rfl rfl ?_
      refine j_if_eq (tgt := 124) rfl (by decide) (by omega) (by omega) (fun hb115_2 => ?_) (fun hb115_2 => ?_)
      · skip
        refine j_aload_n rfl rfl ?_
        refine j_getR (q := 88) rfl f_X12_13 rfl (hS.lt (by decide)) (hS.k (by decide) (by decide)) (hS.r (by decide)) ?_
        refine j_bipush rfl (by decide) ?_
        refine j_iload_n rfl rfl ?_
        refine j_imul rfl ?_
        refine j_aload_n rfl rfl ?_
        refine j_getR (q := 94) rfl f_X12_32 rfl (hS.lt (by decide)) (hS.k (by decide) (by decide)) (hS.r (by decide)) ?_
        refine j_iload_n rfl rfl ?_
        refine j_iald (n := 84) rfl (hS.lt (by decide)) (hS.k (by decide) (by decide)) (hS.n (by decide) (by decide)) (by omega) (by omega) (by decide) ?_
        have u137_2 := hI.a 94 (0) 13 (by decide) k.toNat
        refine j_iadd rfl ?_
        refine j_iald (n := 48) rfl (hS.lt (by decide)) (hS.k (by decide) (by decide)) (hS.n (by decide) (by decide)) (by omega) (by omega) (by decide) ?_
        have u139_2 := hI.a 88 (0) 20 (by decide) ((8 * b) + (mi M 94 k.toNat)).toNat
        refine j_callS (As := [_]) rfl okX12_mostOf c_X12_339 (ct_X12_mostOf (by omega) (by omega)) rfl rfl (Nat.le_of_ble_eq_true rfl) (by decide) (by decide) ?_
        rintro vq mq ⟨e1, e2⟩
        rw [e1, e2]
        clear e1 e2
        simp only [Option.toList_some, Option.toList_none, List.cons_append, List.nil_append]
        refine j_istore rfl (by decide) ?_
        refine j_loc (ls' := [(0, vR 86), (1, vI b), (2, vI l), (3, vI k), (5, vL (ml M 115 (0 : Int).toNat)), (7, vI 1), (8, vI (FX12_mostOf M (mi M 88 ((8 * b) + (mi M 94 k.toNat)).toNat)))]) rfl ?_
        first
          | (exfalso; omega)
          | (have hq : (FX12_mostOf M (mi M 88 ((8 * b) + (mi M 94 k.toNat)).toNat)) = mostX M b k := by
               unfold mostX
               first | (rw [if_pos (by omega)]; done) | (rw [if_neg (by omega)]; done)
             exact lp_doLine_145 hRM hb0 hb5 hl0 hl1 hk hLM (by omega) (by omega) (by omega) hq (K1 _ hq) (K2 _ hq))
      · skip
        refine j_sipush rfl (by decide) ?_
        refine j_goto (tgt := 143) rfl (by decide) ?_
        refine j_istore rfl (by decide) ?_
        refine j_loc (ls' := [(0, vR 86), (1, vI b), (2, vI l), (3, vI k), (5, vL (ml M 115 (0 : Int).toNat)), (7, vI 1), (8, vI 32767)]) rfl ?_
        first
          | (exfalso; omega)
          | (have hq : 32767 = mostX M b k := by
               unfold mostX
               first | (rw [if_pos (by omega)]; done) | (rw [if_neg (by omega)]; done)
             exact lp_doLine_145 hRM hb0 hb5 hl0 hl1 hk hLM (by omega) (by omega) (by omega) hq (K1 _ hq) (K2 _ hq))
  · skip
    refine j_iload rfl rfl ?_
    refine j_iret rfl rfl ?_ rfl (Nat.le_refl _)
    refine hfin _ _ ?_
    unfold RpD doB
    rw [if_pos (by omega)]
    exact ⟨hs, rfl⟩

theorem SameP.second {m M : AM} (h : SameP m M) (b l k : Int) : (doB M b l k).1 = (doB m b l k).1 ∧ SameP (doB m b l k).2 (doB M b l k).2 := by
  unfold doB
  simp only [h.eM, h.mi]
  split
  · exact ⟨rfl, h⟩
  · exact h.land _ _ _ _

set_option maxRecDepth 20000 in
set_option maxHeartbeats 4000000 in
/-- one line of a box at the reference -/
theorem ct_X12_doLine {G : QW} {m : AM} {b l : Int} (hRF : RF m) (hb0 : 0 ≤ b) (hb5 : b ≤ 5) (hl0 : 0 ≤ l) (hl1 : l ≤ 11) (hLK : LK m b ((12 * b) + l)) : qM G mX12_doLine 2 0 0 [vR 86, vI b, vI l] m (RpD m (doM m b l)) := by
  refine qM.intro okX12_doLine (Nat.le_of_ble_eq_true rfl) ?_
  have hRF0 := hRF
  obtain ⟨hS, hI, -⟩ := hRF
  have hord := hLK.1
  have hi95 := hI.a 95 0 160 (by decide) ((12 * b) + l).toNat
  have hi97 := hI.a 97 0 170 (by decide) ((12 * b) + l).toNat
  refine j_bipush rfl (by decide) ?_
  refine j_iload_n rfl rfl ?_
  refine j_imul rfl ?_
  refine j_iload_n rfl rfl ?_
  refine j_iadd rfl ?_
  refine j_istore_n rfl (by decide) ?_
  refine j_aload_n rfl rfl ?_
  refine j_getR (q := 96) rfl f_X12_38 rfl (hS.lt (by decide)) (hS.k (by decide) (by decide)) (hS.r (by decide)) ?_
  refine j_iload_n rfl rfl ?_
  refine j_iald (n := 84) rfl (hS.lt (by decide)) (hS.k (by decide) (by decide)) (hS.n (by decide) (by decide)) (by omega) (by omega) (by decide) ?_
  have u12_1 := hI.a 96 (0) 160 (by decide) ((12 * b) + l).toNat
  refine j_aload_n rfl rfl ?_
  refine j_getR (q := 95) rfl f_X12_35 rfl (hS.lt (by decide)) (hS.k (by decide) (by decide)) (hS.r (by decide)) ?_
  refine j_iload_n rfl rfl ?_
  refine j_iald (n := 84) rfl (hS.lt (by decide)) (hS.k (by decide) (by decide)) (hS.n (by decide) (by decide)) (by omega) (by omega) (by decide) ?_
  have u18_1 := hI.a 95 (0) 160 (by decide) ((12 * b) + l).toNat
  refine j_icmp_le (tgt := 60) rfl (by decide) (by omega) (by omega) (by omega) (by omega) (fun hb19_1 => ?_) (fun hb19_1 => ?_)
  · skip
    refine j_loc (ls' := [(0, vR 86), (1, vI b), (2, vI l), (3, vI (((12 * b) + l)))]) rfl ?_
    refine lp_doLine_60 hRF0 hb0 hb5 hl0 hl1 rfl hLK (fun r N h => ?_)
    unfold doM
    rw [if_neg (by omega)]
    exact h
  · skip
    refine j_aload_n rfl rfl ?_
    refine j_iload_n rfl rfl ?_
    refine j_aload_n rfl rfl ?_
    refine j_getR (q := 95) rfl f_X12_35 rfl (hS.lt (by decide)) (hS.k (by decide) (by decide)) (hS.r (by decide)) ?_
    refine j_iload_n rfl rfl ?_
    refine j_iald (n := 84) rfl (hS.lt (by decide)) (hS.k (by decide) (by decide)) (hS.n (by decide) (by decide)) (by omega) (by omega) (by decide) ?_
    have u29_1 := hI.a 95 (0) 160 (by decide) ((12 * b) + l).toNat
    refine j_aload_n rfl rfl ?_
    refine j_getR (q := 96) rfl f_X12_38 rfl (hS.lt (by decide)) (hS.k (by decide) (by decide)) (hS.r (by decide)) ?_
    refine j_iload_n rfl rfl ?_
    refine j_iald (n := 84) rfl (hS.lt (by decide)) (hS.k (by decide) (by decide)) (hS.n (by decide) (by decide)) (by omega) (by omega) (by decide) ?_
    have u35_1 := hI.a 96 (0) 160 (by decide) ((12 * b) + l).toNat
    refine j_callV (ci := 12) rfl okX12_worked c_X12_336 (ct_X12_workedE hRF0 hb0 hb5 (by omega) (by omega) (by omega) (by omega) (hLK.2.1 (by omega))) rfl rfl (hS.lt (by decide)) (hS.k (by decide) (by decide)) (by decide) rfl (Nat.le_of_ble_eq_true rfl) (by decide) (by decide) ?_
    rintro vq M ⟨hs, e1, h1⟩
    rw [e1]
    clear e1
    simp only [Option.toList_some, Option.toList_none, List.cons_append, List.nil_append]
    have hRM := hs.RF hRF0
    have hRM0 := hRM
    obtain ⟨hS, hI, -⟩ := hRM0
    have hLM := hs.LK hLK
    have hrr := eM_r m b (mi m 95 ((12 * b) + l).toNat) (mi m 96 ((12 * b) + l).toNat)
    refine j_istore rfl (by decide) ?_
    refine j_iload rfl rfl ?_
    refine j_if_gt (tgt := 57) rfl (by decide) (by omega) (by omega) (fun hb43_1 => ?_) (fun hb43_1 => ?_)
    · skip
      refine j_iload rfl rfl ?_
      refine j_iret rfl rfl ?_ rfl (Nat.le_refl _)
      first
        | (unfold doM RpD; rw [if_pos (by omega), if_pos (by omega)]; exact ⟨hs, rfl⟩)
        | (unfold doM RpD; rw [if_pos (by omega), if_neg (by omega), if_pos (by omega)]; exact ⟨hs, congrArg (fun z => some (vI z)) (show (eM m b (mi m 95 ((12 * b) + l).toNat) (mi m 96 ((12 * b) + l).toNat)).1 = 0 by omega)⟩)
    · skip
      obtain ⟨hv, hv0, hv1⟩ := h1 (by omega)
      have hv : ml M 115 (0 : Int).toNat = (eM m b (mi m 95 ((12 * b) + l).toNat) (mi m 96 ((12 * b) + l).toNat)).2 := hv
      refine j_aload_n rfl rfl ?_
      refine j_getR (q := 115) rfl f_X12_96 rfl (hS.lt (by decide)) (hS.k (by decide) (by decide)) (hS.r (by decide)) ?_
      refine j_iconst rfl ?_
      refine j_lald (n := 170) rfl (hS.lt (by decide)) (hS.k (by decide) (by decide)) (hS.n (by decide) (by decide)) (by omega) (by omega) (by decide) ?_
      have u51_1 := ml_rng M 115 (0 : Int).toNat
      refine j_lconst (v := 0) rfl (by decide) ?_
      refine j_lc_ne (tgt := 60) rfl rfl (by decide) (by omega) (by omega) (by omega) (by omega) (fun hb53_1 => ?_) (fun hb53_1 => ?_)
      · skip
        refine j_loc (ls' := [(0, vR 86), (1, vI b), (2, vI l), (3, vI (((12 * b) + l)))]) rfl ?_
        refine lp_doLine_60 hRM hb0 hb5 hl0 hl1 rfl hLM (fun r N h => ?_)
        have e := hs.second b l (((12 * b) + l))
        unfold doM
        rw [if_pos (by omega), if_neg (by omega), if_neg (by omega)]
        exact ⟨e.2.trans h.1, h.2.trans (congrArg (fun z => some (vI z)) e.1)⟩
      · skip
        refine j_iload rfl rfl ?_
        refine j_iret rfl rfl ?_ rfl (Nat.le_refl _)
        first
          | (unfold doM RpD; rw [if_pos (by omega), if_pos (by omega)]; exact ⟨hs, rfl⟩)
          | (unfold doM RpD; rw [if_pos (by omega), if_neg (by omega), if_pos (by omega)]; exact ⟨hs, congrArg (fun z => some (vI z)) (show (eM m b (mi m 95 ((12 * b) + l).toNat) (mi m 96 ((12 * b) + l).toNat)).1 = 0 by omega)⟩)


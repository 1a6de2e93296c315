/-! what new cells hold -/
theorem mi_amn (m : AM) (kd len p j : Nat) : mi (am_new m kd len) p j = if p = mz m then 0 else mi m p j := by
  show (zi (if p = mz m then 0 else m.1 p j)).toInt = _
  split <;> rfl
theorem ml_amn (m : AM) (kd len p j : Nat) : ml (am_new m kd len) p j = if p = mz m then 0 else ml m p j := by
  show (zl (if p = mz m then 0 else m.2.1 p j)).toInt = _
  split <;> rfl
theorem mr_amn (m : AM) (kd len p j : Nat) : mr (am_new m kd len) p j = if p = mz m then none else mr m p j := rfl
theorem mk_amn (m : AM) (kd len p : Nat) : mk (am_new m kd len) p = if p = mz m then kd else mk m p := rfl
theorem mn_amn (m : AM) (kd len p : Nat) : mn (am_new m kd len) p = if p = mz m then len else mn m p := rfl
theorem mz_amn (m : AM) (kd len : Nat) : mz (am_new m kd len) = mz m + 1 := rfl
theorem am_ok {m : AM} {o c kd len : Nat} (h : o < mz m ∧ mk m o = c) : o < mz (am_new m kd len) ∧ mk (am_new m kd len) o = c := ⟨by rw [mz_amn]; omega, by rw [mk_amn, if_neg (by omega)]; exact h.2⟩
theorem am_made {m : AM} {o kd len : Nat} (h : mz m = o) : o < mz (am_new m kd len) ∧ mk (am_new m kd len) o = kd := ⟨by rw [mz_amn]; omega, by rw [mk_amn, if_pos h.symm]⟩
theorem mna_ok {m : AM} {o c n k : Nat} (h : o < mz m ∧ mk m o = c) : o < mz (mnaM m n k) ∧ mk (mnaM m n k) o = c := ⟨by show o < mz m + 1 + n; omega, by rw [mna_mk, if_neg (by omega), if_neg (by omega)]; exact h.2⟩

def CK (m : AM) (o c n : Nat) : Prop := o < mz m ∧ mk m o = c ∧ mn m o = n
theorem am_ck {m : AM} {o c n kd len : Nat} (h : CK m o c n) : CK (am_new m kd len) o c n := ⟨by rw [mz_amn]; have := h.1; omega, by rw [mk_amn, if_neg (by have := h.1; omega)]; exact h.2.1, by rw [mn_amn, if_neg (by have := h.1; omega)]; exact h.2.2⟩
theorem am_ck1 {m : AM} {o kd len : Nat} (h : mz m = o) : CK (am_new m kd len) o kd len := ⟨by rw [mz_amn]; omega, by rw [mk_amn, if_pos h.symm], by rw [mn_amn, if_pos h.symm]⟩
theorem mna_ck {m : AM} {o c l n k : Nat} (h : CK m o c l) : CK (mnaM m n k) o c l := ⟨by have := h.1; show o < mz m + 1 + n; omega, by have := h.1; rw [mna_mk, if_neg (by omega), if_neg (by omega)]; exact h.2.1, by have := h.1; rw [mna_mn, if_neg (by omega), if_neg (by omega)]; exact h.2.2⟩
theorem am_rf {m : AM} {x j kd len v : Nat} (ho : x < mz m) (h : mr m x j = some v) : mr (am_new m kd len) x j = some v := by rw [mr_amn, if_neg (by omega)]; exact h
theorem mna_rf {m : AM} {x j n k v : Nat} (ho : x < mz m) (h : mr m x j = some v) : mr (mnaM m n k) x j = some v := by rw [mna_mr, if_neg (by omega), if_neg (by omega)]; exact h
theorem sr_rf {m : AM} {x j o k : Nat} {v : Option Nat} {w : Nat} (hk : j ≠ k) (h : mr m x j = some w) : mr (sr m o k v) x j = some w := by rw [mr_sr_ne _ _ (fun q => hk q.2)]; exact h

theorem dfX0 : ∀ k, k < 2 → defaultValue (tyX0 k) = if fr 0 k = true then .null else .int 0 := by
  intro k hk
  have h : k = 0 ∨ k = 1 := by omega
  rcases h with rfl | rfl <;> rfl

theorem dfX1 : ∀ k, k < 6 → defaultValue (tyX1 k) = if fr 1 k = true then .null else .int 0 := by
  intro k hk
  have h : k = 0 ∨ k = 1 ∨ k = 2 ∨ k = 3 ∨ k = 4 ∨ k = 5 := by omega
  rcases h with rfl | rfl | rfl | rfl | rfl | rfl <;> rfl

theorem dfX2 : ∀ k, k < 3 → defaultValue (tyX2 k) = if fr 2 k = true then .null else .int 0 := by
  intro k hk
  have h : k = 0 ∨ k = 1 ∨ k = 2 := by omega
  rcases h with rfl | rfl | rfl <;> rfl

theorem dfX3 : ∀ k, k < 5 → defaultValue (tyX3 k) = if fr 3 k = true then .null else .int 0 := by
  intro k hk
  have h : k = 0 ∨ k = 1 ∨ k = 2 ∨ k = 3 ∨ k = 4 := by omega
  rcases h with rfl | rfl | rfl | rfl | rfl <;> rfl

theorem dfX4 : ∀ k, k < 6 → defaultValue (tyX4 k) = if fr 4 k = true then .null else .int 0 := by
  intro k hk
  have h : k = 0 ∨ k = 1 ∨ k = 2 ∨ k = 3 ∨ k = 4 ∨ k = 5 := by omega
  rcases h with rfl | rfl | rfl | rfl | rfl | rfl <;> rfl

theorem dfX5 : ∀ k, k < 9 → defaultValue (tyX5 k) = if fr 5 k = true then .null else .int 0 := by
  intro k hk
  have h : k = 0 ∨ k = 1 ∨ k = 2 ∨ k = 3 ∨ k = 4 ∨ k = 5 ∨ k = 6 ∨ k = 7 ∨ k = 8 := by omega
  rcases h with rfl | rfl | rfl | rfl | rfl | rfl | rfl | rfl | rfl <;> rfl

theorem dfX6 : ∀ k, k < 5 → defaultValue (tyX6 k) = if fr 6 k = true then .null else .int 0 := by
  intro k hk
  have h : k = 0 ∨ k = 1 ∨ k = 2 ∨ k = 3 ∨ k = 4 := by omega
  rcases h with rfl | rfl | rfl | rfl | rfl <;> rfl

theorem dfX7 : ∀ k, k < 5 → defaultValue (tyX7 k) = if fr 7 k = true then .null else .int 0 := by
  intro k hk
  have h : k = 0 ∨ k = 1 ∨ k = 2 ∨ k = 3 ∨ k = 4 := by omega
  rcases h with rfl | rfl | rfl | rfl | rfl <;> rfl

theorem dfX8 : ∀ k, k < 5 → defaultValue (tyX8 k) = if fr 8 k = true then .null else .int 0 := by
  intro k hk
  have h : k = 0 ∨ k = 1 ∨ k = 2 ∨ k = 3 ∨ k = 4 := by omega
  rcases h with rfl | rfl | rfl | rfl | rfl <;> rfl

theorem dfX9 : ∀ k, k < 8 → defaultValue (tyX9 k) = if fr 9 k = true then .null else .int 0 := by
  intro k hk
  have h : k = 0 ∨ k = 1 ∨ k = 2 ∨ k = 3 ∨ k = 4 ∨ k = 5 ∨ k = 6 ∨ k = 7 := by omega
  rcases h with rfl | rfl | rfl | rfl | rfl | rfl | rfl | rfl <;> rfl

theorem dfX10 : ∀ k, k < 10 → defaultValue (tyX10 k) = if fr 10 k = true then .null else .int 0 := by
  intro k hk
  have h : k = 0 ∨ k = 1 ∨ k = 2 ∨ k = 3 ∨ k = 4 ∨ k = 5 ∨ k = 6 ∨ k = 7 ∨ k = 8 ∨ k = 9 := by omega
  rcases h with rfl | rfl | rfl | rfl | rfl | rfl | rfl | rfl | rfl | rfl <;> rfl

theorem dfX11 : ∀ k, k < 20 → defaultValue (tyX11 k) = if fr 11 k = true then .null else .int 0 := by
  intro k hk
  have h : k = 0 ∨ k = 1 ∨ k = 2 ∨ k = 3 ∨ k = 4 ∨ k = 5 ∨ k = 6 ∨ k = 7 ∨ k = 8 ∨ k = 9 ∨ k = 10 ∨ k = 11 ∨ k = 12 ∨ k = 13 ∨ k = 14 ∨ k = 15 ∨ k = 16 ∨ k = 17 ∨ k = 18 ∨ k = 19 := by omega
  rcases h with rfl | rfl | rfl | rfl | rfl | rfl | rfl | rfl | rfl | rfl | rfl | rfl | rfl | rfl | rfl | rfl | rfl | rfl | rfl | rfl <;> rfl

def pgI (m : AM) (o : Nat) : AM :=
  (sr (am_new (sr (am_new (sr (am_new (sr (am_new (sr (am_new m 13 160) o 0 (some (o + 1))) 13 12) o 1 (some (o + 2))) 13 12) o 2 (some (o + 3))) 13 12) o 3 (some (o + 4))) 13 12) o 4 (some (o + 5)))

set_option maxRecDepth 20000 in
set_option maxHeartbeats 4000000 in
theorem ct_X5_init {G : QW} {m : AM} {o : Nat} (ho : o < mz m ∧ mk m o = 5) (hz : mz m = o + 1) : qM G mX5_init 1 5 208 [vR o] m (fun r m' => r = none ∧ m' = pgI m o) := by
  refine qM.intro okX5_init (Nat.le_of_ble_eq_true rfl) ?_
  refine j_aload_n rfl rfl ?_
  refine j_obj rfl ob_X5_3 w_obj1 w_obj2 (by decide) (by decide) ?_
  refine j_aload_n rfl rfl ?_
  refine j_sipush rfl (by decide) ?_
  have hz : mz m = (o + 1) := hz
  refine j_newI (n := 160) rfl wa_int (by decide) (by decide) (by decide) ?_
  rw [hz]
  have ho := am_ok (m := m) (kd := 13) (len := 160) ho
  have hz : mz (am_new m 13 160) = (o + 2) := by show mz m + 1 = _; rw [hz]
  refine j_putFR rfl f_X5_9 rfl rfl (fun _ => ⟨rfl, rfl⟩) rfl ho.1 ho.2 ?_
  refine j_aload_n rfl rfl ?_
  refine j_bipush rfl (by decide) ?_
  have hz : mz (sr (am_new m 13 160) o 0 (some (o + 1))) = (o + 2) := hz
  refine j_newI (n := 12) rfl wa_int (by decide) (by decide) (by decide) ?_
  rw [hz]
  have ho := am_ok (m := (sr (am_new m 13 160) o 0 (some (o + 1)))) (kd := 13) (len := 12) ho
  have hz : mz (am_new (sr (am_new m 13 160) o 0 (some (o + 1))) 13 12) = (o + 3) := by show mz (sr (am_new m 13 160) o 0 (some (o + 1))) + 1 = _; rw [hz]
  refine j_putFR rfl f_X5_15 rfl rfl (fun _ => ⟨rfl, rfl⟩) rfl ho.1 ho.2 ?_
  refine j_aload_n rfl rfl ?_
  refine j_bipush rfl (by decide) ?_
  have hz : mz (sr (am_new (sr (am_new m 13 160) o 0 (some (o + 1))) 13 12) o 1 (some (o + 2))) = (o + 3) := hz
  refine j_newI (n := 12) rfl wa_int (by decide) (by decide) (by decide) ?_
  rw [hz]
  have ho := am_ok (m := (sr (am_new (sr (am_new m 13 160) o 0 (some (o + 1))) 13 12) o 1 (some (o + 2)))) (kd := 13) (len := 12) ho
  have hz : mz (am_new (sr (am_new (sr (am_new m 13 160) o 0 (some (o + 1))) 13 12) o 1 (some (o + 2))) 13 12) = (o + 4) := by show mz (sr (am_new (sr (am_new m 13 160) o 0 (some (o + 1))) 13 12) o 1 (some (o + 2))) + 1 = _; rw [hz]
  refine j_putFR rfl f_X5_18 rfl rfl (fun _ => ⟨rfl, rfl⟩) rfl ho.1 ho.2 ?_
  refine j_aload_n rfl rfl ?_
  refine j_bipush rfl (by decide) ?_
  have hz : mz (sr (am_new (sr (am_new (sr (am_new m 13 160) o 0 (some (o + 1))) 13 12) o 1 (some (o + 2))) 13 12) o 2 (some (o + 3))) = (o + 4) := hz
  refine j_newI (n := 12) rfl wa_int (by decide) (by decide) (by decide) ?_
  rw [hz]
  have ho := am_ok (m := (sr (am_new (sr (am_new (sr (am_new m 13 160) o 0 (some (o + 1))) 13 12) o 1 (some (o + 2))) 13 12) o 2 (some (o + 3)))) (kd := 13) (len := 12) ho
  have hz : mz (am_new (sr (am_new (sr (am_new (sr (am_new m 13 160) o 0 (some (o + 1))) 13 12) o 1 (some (o + 2))) 13 12) o 2 (some (o + 3))) 13 12) = (o + 5) := by show mz (sr (am_new (sr (am_new (sr (am_new m 13 160) o 0 (some (o + 1))) 13 12) o 1 (some (o + 2))) 13 12) o 2 (some (o + 3))) + 1 = _; rw [hz]
  refine j_putFR rfl f_X5_21 rfl rfl (fun _ => ⟨rfl, rfl⟩) rfl ho.1 ho.2 ?_
  refine j_aload_n rfl rfl ?_
  refine j_bipush rfl (by decide) ?_
  have hz : mz (sr (am_new (sr (am_new (sr (am_new (sr (am_new m 13 160) o 0 (some (o + 1))) 13 12) o 1 (some (o + 2))) 13 12) o 2 (some (o + 3))) 13 12) o 3 (some (o + 4))) = (o + 5) := hz
  refine j_newI (n := 12) rfl wa_int (by decide) (by decide) (by decide) ?_
  rw [hz]
  have ho := am_ok (m := (sr (am_new (sr (am_new (sr (am_new (sr (am_new m 13 160) o 0 (some (o + 1))) 13 12) o 1 (some (o + 2))) 13 12) o 2 (some (o + 3))) 13 12) o 3 (some (o + 4)))) (kd := 13) (len := 12) ho
  have hz : mz (am_new (sr (am_new (sr (am_new (sr (am_new (sr (am_new m 13 160) o 0 (some (o + 1))) 13 12) o 1 (some (o + 2))) 13 12) o 2 (some (o + 3))) 13 12) o 3 (some (o + 4))) 13 12) = (o + 6) := by show mz (sr (am_new (sr (am_new (sr (am_new (sr (am_new m 13 160) o 0 (some (o + 1))) 13 12) o 1 (some (o + 2))) 13 12) o 2 (some (o + 3))) 13 12) o 3 (some (o + 4))) + 1 = _; rw [hz]
  refine j_putFR rfl f_X5_24 rfl rfl (fun _ => ⟨rfl, rfl⟩) rfl ho.1 ho.2 ?_
  refine j_vret rfl rfl ?_ rfl (Nat.le_refl _)
  exact ⟨rfl, rfl⟩

theorem pgI_z (m : AM) (o : Nat) : mz (pgI m o) = mz m + 5 := rfl
theorem pgI_ck {m : AM} {o x c n : Nat} (h : CK m x c n) : CK (pgI m o) x c n := am_ck (am_ck (am_ck (am_ck (am_ck h))))
theorem pgI_rf {m : AM} {o x j v : Nat} (ho : x < mz m) (hx : x ≠ o) (h : mr m x j = some v) : mr (pgI m o) x j = some v := by
  unfold pgI
  have e : ∀ k w (M : AM), mr (sr M o k w) x j = mr M x j := fun k w M => mr_sr_ne _ _ (fun q => hx q.1)
  have z : ∀ (M : AM) kd len, x < mz M → mr (am_new M kd len) x j = mr M x j := fun M kd len hM => by rw [mr_amn, if_neg (by omega)]
  have g : ∀ (M : AM) k w, mz (sr M o k w) = mz M := fun _ _ _ => rfl
  rw [e, z _ _ _ (by simp only [g, mz_amn]; omega), e, z _ _ _ (by simp only [g, mz_amn]; omega), e, z _ _ _ (by simp only [g, mz_amn]; omega), e, z _ _ _ (by simp only [g, mz_amn]; omega), e, z _ _ _ ho]
  exact h
theorem pgI_ok {m : AM} {o x c : Nat} (h : x < mz m ∧ mk m x = c) : x < mz (pgI m o) ∧ mk (pgI m o) x = c := am_ok (am_ok (am_ok (am_ok (am_ok h))))

theorem mk_fl (m : AM) (o : Nat) (a e v : Int) : mk (fil m o a e v) = mk m := rfl
theorem mn_fl (m : AM) (o : Nat) (a e v : Int) : mn (fil m o a e v) = mn m := rfl
theorem mz_fl (m : AM) (o : Nat) (a e v : Int) : mz (fil m o a e v) = mz m := rfl
theorem mz_mna (m : AM) (n k : Nat) : mz (mnaM m n k) = mz m + 1 + n := rfl

def bxI (m : AM) (x : Nat) (nu : Int) (kd : Int) : AM :=
  (fil (fil (si (si (si (sr (pgI (am_new (sr (am_new (sr (am_new m 13 8) x 2 (some (x + 1))) 13 4) x 3 (some (x + 2))) 5 0) (x + 3)) x 4 (some (x + 3))) x 5 (-1)) x 0 nu) x 1 kd) (x + 1) 0 (8 : Nat) 16) (x + 2) 0 (4 : Nat) (-1))

set_option maxRecDepth 20000 in
set_option maxHeartbeats 4000000 in
theorem ct_X1_init {G : QW} {m : AM} {x : Nat} {nu : Int} {kd : Int} (ho : x < mz m ∧ mk m x = 1) (hz : mz m = x + 1) (hnu1 : -2147483648 ≤ nu) (hnu2 : nu < 2147483648) (hkd1 : -2147483648 ≤ kd) (hkd2 : kd < 2147483648) : qM G mX1_init 2 8 229 [vR x, vI nu, vI kd] m (fun r m' => r = none ∧ m' = bxI m x nu kd) := by
  refine qM.intro okX1_init (Nat.le_of_ble_eq_true rfl) ?_
  have hz0 := hz
  refine j_aload_n rfl rfl ?_
  refine j_obj rfl ob_X1_3 w_obj1 w_obj2 (by decide) (by decide) ?_
  refine j_aload_n rfl rfl ?_
  refine j_bipush rfl (by decide) ?_
  have hz : mz m = (x + 1) := hz
  refine j_newI (n := 8) rfl wa_int (by decide) (by decide) (by decide) ?_
  rw [hz]
  have hc1 := am_ck1 (kd := 13) (len := 8) hz
  have ho := am_ok (m := m) (kd := 13) (len := 8) ho
  have hz : mz (am_new m 13 8) = (x + 2) := by show mz m + 1 = _; rw [hz]
  refine j_putFR rfl f_X1_9 rfl rfl (fun _ => ⟨rfl, rfl⟩) rfl ho.1 ho.2 ?_
  have hr2 : mr (sr (am_new m 13 8) x 2 (some (x + 1))) x 2 = some (x + 1) := mr_sr_same _ _ _ _
  refine j_aload_n rfl rfl ?_
  refine j_iconst rfl ?_
  have hz : mz (sr (am_new m 13 8) x 2 (some (x + 1))) = (x + 2) := hz
  refine j_newI (n := 4) rfl wa_int (by decide) (by decide) (by decide) ?_
  rw [hz]
  have hr2 := am_rf (m := (sr (am_new m 13 8) x 2 (some (x + 1)))) (kd := 13) (len := 4) ho.1 hr2
  have hc1 := am_ck (m := (sr (am_new m 13 8) x 2 (some (x + 1)))) (kd := 13) (len := 4) hc1
  have hc2 := am_ck1 (kd := 13) (len := 4) hz
  have ho := am_ok (m := (sr (am_new m 13 8) x 2 (some (x + 1)))) (kd := 13) (len := 4) ho
  have hz : mz (am_new (sr (am_new m 13 8) x 2 (some (x + 1))) 13 4) = (x + 3) := by show mz (sr (am_new m 13 8) x 2 (some (x + 1))) + 1 = _; rw [hz]
  refine j_putFR rfl f_X1_15 rfl rfl (fun _ => ⟨rfl, rfl⟩) rfl ho.1 ho.2 ?_
  have hr2 := sr_rf (m := (am_new (sr (am_new m 13 8) x 2 (some (x + 1))) 13 4)) (o := x) (k := 3) (v := some (x + 2)) (by decide) hr2
  have hr3 : mr (sr (am_new (sr (am_new m 13 8) x 2 (some (x + 1))) 13 4) x 3 (some (x + 2))) x 3 = some (x + 2) := mr_sr_same _ _ _ _
  refine j_aload_n rfl rfl ?_
  have hz : mz (sr (am_new (sr (am_new m 13 8) x 2 (some (x + 1))) 13 4) x 3 (some (x + 2))) = (x + 3) := hz
  refine j_new (ci := 5) (q0 := (RX5, TX5, 9)) rfl rfl (by decide) rfl hin_X5 tyX5_ok dfX5 cl_X1_18 insX5 iniX5 (by decide) (by decide) ?_
  rw [hz]
  have hr2 := am_rf (m := (sr (am_new (sr (am_new m 13 8) x 2 (some (x + 1))) 13 4) x 3 (some (x + 2)))) (kd := 5) (len := 0) ho.1 hr2
  have hr3 := am_rf (m := (sr (am_new (sr (am_new m 13 8) x 2 (some (x + 1))) 13 4) x 3 (some (x + 2)))) (kd := 5) (len := 0) ho.1 hr3
  have hc1 := am_ck (m := (sr (am_new (sr (am_new m 13 8) x 2 (some (x + 1))) 13 4) x 3 (some (x + 2)))) (kd := 5) (len := 0) hc1
  have hc2 := am_ck (m := (sr (am_new (sr (am_new m 13 8) x 2 (some (x + 1))) 13 4) x 3 (some (x + 2)))) (kd := 5) (len := 0) hc2
  have hc3 := am_ck1 (kd := 5) (len := 0) hz
  have hnw := am_made (kd := 5) (len := 0) hz
  have ho := am_ok (m := (sr (am_new (sr (am_new m 13 8) x 2 (some (x + 1))) 13 4) x 3 (some (x + 2)))) (kd := 5) (len := 0) ho
  have hz : mz (am_new (sr (am_new (sr (am_new m 13 8) x 2 (some (x + 1))) 13 4) x 3 (some (x + 2))) 5 0) = (x + 4) := by show mz (sr (am_new (sr (am_new m 13 8) x 2 (some (x + 1))) 13 4) x 3 (some (x + 2))) + 1 = _; rw [hz]
  refine j_dup rfl (Nat.ne_of_beq_eq_false rfl) ?_
  refine j_callN rfl okX5_init c_X1_20 (ct_X5_init (m := (am_new (sr (am_new (sr (am_new m 13 8) x 2 (some (x + 1))) 13 4) x 3 (some (x + 2))) 5 0)) (o := (x + 3)) hnw hz) rfl rfl (Nat.le_of_ble_eq_true rfl) (by decide) (by decide) ?_
  rintro vq mq ⟨e1, e2⟩
  rw [e1, e2]
  clear e1 e2
  simp only [Option.toList_some, Option.toList_none, List.cons_append, List.nil_append]
  have hr2 := pgI_rf (m := (am_new (sr (am_new (sr (am_new m 13 8) x 2 (some (x + 1))) 13 4) x 3 (some (x + 2))) 5 0)) (o := (x + 3)) ho.1 (by omega) hr2
  have hr3 := pgI_rf (m := (am_new (sr (am_new (sr (am_new m 13 8) x 2 (some (x + 1))) 13 4) x 3 (some (x + 2))) 5 0)) (o := (x + 3)) ho.1 (by omega) hr3
  have hc1 := pgI_ck (m := (am_new (sr (am_new (sr (am_new m 13 8) x 2 (some (x + 1))) 13 4) x 3 (some (x + 2))) 5 0)) (o := (x + 3)) hc1
  have hc2 := pgI_ck (m := (am_new (sr (am_new (sr (am_new m 13 8) x 2 (some (x + 1))) 13 4) x 3 (some (x + 2))) 5 0)) (o := (x + 3)) hc2
  have hc3 := pgI_ck (m := (am_new (sr (am_new (sr (am_new m 13 8) x 2 (some (x + 1))) 13 4) x 3 (some (x + 2))) 5 0)) (o := (x + 3)) hc3
  have ho := pgI_ok (m := (am_new (sr (am_new (sr (am_new m 13 8) x 2 (some (x + 1))) 13 4) x 3 (some (x + 2))) 5 0)) (o := (x + 3)) ho
  have hz : mz (pgI (am_new (sr (am_new (sr (am_new m 13 8) x 2 (some (x + 1))) 13 4) x 3 (some (x + 2))) 5 0) (x + 3)) = (x + 9) := by rw [pgI_z, hz]
  refine j_putR rfl f_X1_21 (fun _ => ⟨rfl, rfl⟩) rfl ho.1 ho.2 ?_
  have hr2 := sr_rf (m := (pgI (am_new (sr (am_new (sr (am_new m 13 8) x 2 (some (x + 1))) 13 4) x 3 (some (x + 2))) 5 0) (x + 3))) (o := x) (k := 4) (v := some (x + 3)) (by decide) hr2
  have hr3 := sr_rf (m := (pgI (am_new (sr (am_new (sr (am_new m 13 8) x 2 (some (x + 1))) 13 4) x 3 (some (x + 2))) 5 0) (x + 3))) (o := x) (k := 4) (v := some (x + 3)) (by decide) hr3
  have hr4 : mr (sr (pgI (am_new (sr (am_new (sr (am_new m 13 8) x 2 (some (x + 1))) 13 4) x 3 (some (x + 2))) 5 0) (x + 3)) x 4 (some (x + 3))) x 4 = some (x + 3) := mr_sr_same _ _ _ _
  refine j_aload_n rfl rfl ?_
  refine j_iconst rfl ?_
  refine j_putI rfl f_X1_25 rfl ho.1 ho.2 ?_
  refine j_aload_n rfl rfl ?_
  refine j_iload_n rfl rfl ?_
  refine j_putFI rfl f_X1_29 rfl rfl rfl ho.1 ho.2 ?_
  refine j_aload_n rfl rfl ?_
  refine j_iload_n rfl rfl ?_
  refine j_putFI rfl f_X1_32 rfl rfl rfl ho.1 ho.2 ?_
  refine j_aload_n rfl rfl ?_
  refine j_getR (q := (x + 1)) rfl f_X1_9 rfl ho.1 ho.2 hr2 ?_
  refine j_bipush rfl (by decide) ?_
  refine j_callS (As := [_, _]) rfl okJ7_fill_53178 c_X1_35 (ct_fillI (m := (si (si (si (sr (pgI (am_new (sr (am_new (sr (am_new m 13 8) x 2 (some (x + 1))) 13 4) x 3 (some (x + 2))) 5 0) (x + 3)) x 4 (some (x + 3))) x 5 (-1)) x 0 nu) x 1 kd)) (n := 8) hc1.1 hc1.2.1 hc1.2.2 (by decide)) rfl rfl (Nat.le_of_ble_eq_true rfl) (by decide) (by decide) ?_
  rintro vq mq ⟨e1, e2⟩
  rw [e1, e2]
  clear e1 e2
  simp only [Option.toList_some, Option.toList_none, List.cons_append, List.nil_append]
  refine j_aload_n rfl rfl ?_
  refine j_getR (q := (x + 2)) rfl f_X1_15 rfl ho.1 ho.2 hr3 ?_
  refine j_iconst rfl ?_
  refine j_callS (As := [_, _]) rfl okJ7_fill_53178 c_X1_35 (ct_fillI (m := (fil (si (si (si (sr (pgI (am_new (sr (am_new (sr (am_new m 13 8) x 2 (some (x + 1))) 13 4) x 3 (some (x + 2))) 5 0) (x + 3)) x 4 (some (x + 3))) x 5 (-1)) x 0 nu) x 1 kd) (x + 1) 0 (8 : Nat) 16)) (n := 4) hc2.1 hc2.2.1 hc2.2.2 (by decide)) rfl rfl (Nat.le_of_ble_eq_true rfl) (by decide) (by decide) ?_
  rintro vq mq ⟨e1, e2⟩
  rw [e1, e2]
  clear e1 e2
  simp only [Option.toList_some, Option.toList_none, List.cons_append, List.nil_append]
  refine j_vret rfl rfl ?_ rfl (Nat.le_refl _)
  exact ⟨rfl, rfl⟩

def flI (m : AM) (x : Nat) : AM :=
  (fil (fil (sr (mnaM (sr (am_new (sr (am_new (sr (am_new (sr (am_new m 13 3) x 0 (some (x + 1))) 13 3) x 1 (some (x + 2))) 13 3) x 2 (some (x + 3))) 13 3) x 3 (some (x + 4))) 3 60) x 4 (some (x + 5))) (x + 3) 0 (3 : Nat) 99999) (x + 4) 0 (3 : Nat) (-1))

set_option maxRecDepth 20000 in
set_option maxHeartbeats 4000000 in
theorem ct_X3_init {G : QW} {m : AM} {x : Nat} (ho : x < mz m ∧ mk m x = 3) (hz : mz m = x + 1) : qM G mX3_init 1 8 195 [vR x] m (fun r m' => r = none ∧ m' = flI m x) := by
  refine qM.intro okX3_init (Nat.le_of_ble_eq_true rfl) ?_
  have hz0 := hz
  refine j_aload_n rfl rfl ?_
  refine j_obj rfl ob_X3_3 w_obj1 w_obj2 (by decide) (by decide) ?_
  refine j_aload_n rfl rfl ?_
  refine j_iconst rfl ?_
  have hz : mz m = (x + 1) := hz
  refine j_newI (n := 3) rfl wa_int (by decide) (by decide) (by decide) ?_
  rw [hz]
  have hc1 := am_ck1 (kd := 13) (len := 3) hz
  have ho := am_ok (m := m) (kd := 13) (len := 3) ho
  have hz : mz (am_new m 13 3) = (x + 2) := by show mz m + 1 = _; rw [hz]
  refine j_putFR rfl f_X3_9 rfl rfl (fun _ => ⟨rfl, rfl⟩) rfl ho.1 ho.2 ?_
  have hr0 : mr (sr (am_new m 13 3) x 0 (some (x + 1))) x 0 = some (x + 1) := mr_sr_same _ _ _ _
  refine j_aload_n rfl rfl ?_
  refine j_iconst rfl ?_
  have hz : mz (sr (am_new m 13 3) x 0 (some (x + 1))) = (x + 2) := hz
  refine j_newI (n := 3) rfl wa_int (by decide) (by decide) (by decide) ?_
  rw [hz]
  have hr0 := am_rf (m := (sr (am_new m 13 3) x 0 (some (x + 1)))) (kd := 13) (len := 3) ho.1 hr0
  have hc1 := am_ck (m := (sr (am_new m 13 3) x 0 (some (x + 1)))) (kd := 13) (len := 3) hc1
  have hc2 := am_ck1 (kd := 13) (len := 3) hz
  have ho := am_ok (m := (sr (am_new m 13 3) x 0 (some (x + 1)))) (kd := 13) (len := 3) ho
  have hz : mz (am_new (sr (am_new m 13 3) x 0 (some (x + 1))) 13 3) = (x + 3) := by show mz (sr (am_new m 13 3) x 0 (some (x + 1))) + 1 = _; rw [hz]
  refine j_putFR rfl f_X3_15 rfl rfl (fun _ => ⟨rfl, rfl⟩) rfl ho.1 ho.2 ?_
  have hr0 := sr_rf (m := (am_new (sr (am_new m 13 3) x 0 (some (x + 1))) 13 3)) (o := x) (k := 1) (v := some (x + 2)) (by decide) hr0
  have hr1 : mr (sr (am_new (sr (am_new m 13 3) x 0 (some (x + 1))) 13 3) x 1 (some (x + 2))) x 1 = some (x + 2) := mr_sr_same _ _ _ _
  refine j_aload_n rfl rfl ?_
  refine j_iconst rfl ?_
  have hz : mz (sr (am_new (sr (am_new m 13 3) x 0 (some (x + 1))) 13 3) x 1 (some (x + 2))) = (x + 3) := hz
  refine j_newI (n := 3) rfl wa_int (by decide) (by decide) (by decide) ?_
  rw [hz]
  have hr0 := am_rf (m := (sr (am_new (sr (am_new m 13 3) x 0 (some (x + 1))) 13 3) x 1 (some (x + 2)))) (kd := 13) (len := 3) ho.1 hr0
  have hr1 := am_rf (m := (sr (am_new (sr (am_new m 13 3) x 0 (some (x + 1))) 13 3) x 1 (some (x + 2)))) (kd := 13) (len := 3) ho.1 hr1
  have hc1 := am_ck (m := (sr (am_new (sr (am_new m 13 3) x 0 (some (x + 1))) 13 3) x 1 (some (x + 2)))) (kd := 13) (len := 3) hc1
  have hc2 := am_ck (m := (sr (am_new (sr (am_new m 13 3) x 0 (some (x + 1))) 13 3) x 1 (some (x + 2)))) (kd := 13) (len := 3) hc2
  have hc3 := am_ck1 (kd := 13) (len := 3) hz
  have ho := am_ok (m := (sr (am_new (sr (am_new m 13 3) x 0 (some (x + 1))) 13 3) x 1 (some (x + 2)))) (kd := 13) (len := 3) ho
  have hz : mz (am_new (sr (am_new (sr (am_new m 13 3) x 0 (some (x + 1))) 13 3) x 1 (some (x + 2))) 13 3) = (x + 4) := by show mz (sr (am_new (sr (am_new m 13 3) x 0 (some (x + 1))) 13 3) x 1 (some (x + 2))) + 1 = _; rw [hz]
  refine j_putFR rfl f_X3_18 rfl rfl (fun _ => ⟨rfl, rfl⟩) rfl ho.1 ho.2 ?_
  have hr0 := sr_rf (m := (am_new (sr (am_new (sr (am_new m 13 3) x 0 (some (x + 1))) 13 3) x 1 (some (x + 2))) 13 3)) (o := x) (k := 2) (v := some (x + 3)) (by decide) hr0
  have hr1 := sr_rf (m := (am_new (sr (am_new (sr (am_new m 13 3) x 0 (some (x + 1))) 13 3) x 1 (some (x + 2))) 13 3)) (o := x) (k := 2) (v := some (x + 3)) (by decide) hr1
  have hr2 : mr (sr (am_new (sr (am_new (sr (am_new m 13 3) x 0 (some (x + 1))) 13 3) x 1 (some (x + 2))) 13 3) x 2 (some (x + 3))) x 2 = some (x + 3) := mr_sr_same _ _ _ _
  refine j_aload_n rfl rfl ?_
  refine j_iconst rfl ?_
  have hz : mz (sr (am_new (sr (am_new (sr (am_new m 13 3) x 0 (some (x + 1))) 13 3) x 1 (some (x + 2))) 13 3) x 2 (some (x + 3))) = (x + 4) := hz
  refine j_newI (n := 3) rfl wa_int (by decide) (by decide) (by decide) ?_
  rw [hz]
  have hr0 := am_rf (m := (sr (am_new (sr (am_new (sr (am_new m 13 3) x 0 (some (x + 1))) 13 3) x 1 (some (x + 2))) 13 3) x 2 (some (x + 3)))) (kd := 13) (len := 3) ho.1 hr0
  have hr1 := am_rf (m := (sr (am_new (sr (am_new (sr (am_new m 13 3) x 0 (some (x + 1))) 13 3) x 1 (some (x + 2))) 13 3) x 2 (some (x + 3)))) (kd := 13) (len := 3) ho.1 hr1
  have hr2 := am_rf (m := (sr (am_new (sr (am_new (sr (am_new m 13 3) x 0 (some (x + 1))) 13 3) x 1 (some (x + 2))) 13 3) x 2 (some (x + 3)))) (kd := 13) (len := 3) ho.1 hr2
  have hc1 := am_ck (m := (sr (am_new (sr (am_new (sr (am_new m 13 3) x 0 (some (x + 1))) 13 3) x 1 (some (x + 2))) 13 3) x 2 (some (x + 3)))) (kd := 13) (len := 3) hc1
  have hc2 := am_ck (m := (sr (am_new (sr (am_new (sr (am_new m 13 3) x 0 (some (x + 1))) 13 3) x 1 (some (x + 2))) 13 3) x 2 (some (x + 3)))) (kd := 13) (len := 3) hc2
  have hc3 := am_ck (m := (sr (am_new (sr (am_new (sr (am_new m 13 3) x 0 (some (x + 1))) 13 3) x 1 (some (x + 2))) 13 3) x 2 (some (x + 3)))) (kd := 13) (len := 3) hc3
  have hc4 := am_ck1 (kd := 13) (len := 3) hz
  have ho := am_ok (m := (sr (am_new (sr (am_new (sr (am_new m 13 3) x 0 (some (x + 1))) 13 3) x 1 (some (x + 2))) 13 3) x 2 (some (x + 3)))) (kd := 13) (len := 3) ho
  have hz : mz (am_new (sr (am_new (sr (am_new (sr (am_new m 13 3) x 0 (some (x + 1))) 13 3) x 1 (some (x + 2))) 13 3) x 2 (some (x + 3))) 13 3) = (x + 5) := by show mz (sr (am_new (sr (am_new (sr (am_new m 13 3) x 0 (some (x + 1))) 13 3) x 1 (some (x + 2))) 13 3) x 2 (some (x + 3))) + 1 = _; rw [hz]
  refine j_putFR rfl f_X3_21 rfl rfl (fun _ => ⟨rfl, rfl⟩) rfl ho.1 ho.2 ?_
  have hr0 := sr_rf (m := (am_new (sr (am_new (sr (am_new (sr (am_new m 13 3) x 0 (some (x + 1))) 13 3) x 1 (some (x + 2))) 13 3) x 2 (some (x + 3))) 13 3)) (o := x) (k := 3) (v := some (x + 4)) (by decide) hr0
  have hr1 := sr_rf (m := (am_new (sr (am_new (sr (am_new (sr (am_new m 13 3) x 0 (some (x + 1))) 13 3) x 1 (some (x + 2))) 13 3) x 2 (some (x + 3))) 13 3)) (o := x) (k := 3) (v := some (x + 4)) (by decide) hr1
  have hr2 := sr_rf (m := (am_new (sr (am_new (sr (am_new (sr (am_new m 13 3) x 0 (some (x + 1))) 13 3) x 1 (some (x + 2))) 13 3) x 2 (some (x + 3))) 13 3)) (o := x) (k := 3) (v := some (x + 4)) (by decide) hr2
  have hr3 : mr (sr (am_new (sr (am_new (sr (am_new (sr (am_new m 13 3) x 0 (some (x + 1))) 13 3) x 1 (some (x + 2))) 13 3) x 2 (some (x + 3))) 13 3) x 3 (some (x + 4))) x 3 = some (x + 4) := mr_sr_same _ _ _ _
  refine j_aload_n rfl rfl ?_
  refine j_iconst rfl ?_
  refine j_bipush rfl (by decide) ?_
  have hz : mz (sr (am_new (sr (am_new (sr (am_new (sr (am_new m 13 3) x 0 (some (x + 1))) 13 3) x 1 (some (x + 2))) 13 3) x 2 (some (x + 3))) 13 3) x 3 (some (x + 4))) = (x + 5) := hz
  refine j_mna (n := 3) (k := 60) rfl cl_X3_24 wa_int (by decide) (by decide) (by decide) (by decide) ?_
  rw [hz]
  have hr0 := mna_rf (m := (sr (am_new (sr (am_new (sr (am_new (sr (am_new m 13 3) x 0 (some (x + 1))) 13 3) x 1 (some (x + 2))) 13 3) x 2 (some (x + 3))) 13 3) x 3 (some (x + 4)))) (n := 3) (k := 60) ho.1 hr0
  have hr1 := mna_rf (m := (sr (am_new (sr (am_new (sr (am_new (sr (am_new m 13 3) x 0 (some (x + 1))) 13 3) x 1 (some (x + 2))) 13 3) x 2 (some (x + 3))) 13 3) x 3 (some (x + 4)))) (n := 3) (k := 60) ho.1 hr1
  have hr2 := mna_rf (m := (sr (am_new (sr (am_new (sr (am_new (sr (am_new m 13 3) x 0 (some (x + 1))) 13 3) x 1 (some (x + 2))) 13 3) x 2 (some (x + 3))) 13 3) x 3 (some (x + 4)))) (n := 3) (k := 60) ho.1 hr2
  have hr3 := mna_rf (m := (sr (am_new (sr (am_new (sr (am_new (sr (am_new m 13 3) x 0 (some (x + 1))) 13 3) x 1 (some (x + 2))) 13 3) x 2 (some (x + 3))) 13 3) x 3 (some (x + 4)))) (n := 3) (k := 60) ho.1 hr3
  have hc1 := mna_ck (m := (sr (am_new (sr (am_new (sr (am_new (sr (am_new m 13 3) x 0 (some (x + 1))) 13 3) x 1 (some (x + 2))) 13 3) x 2 (some (x + 3))) 13 3) x 3 (some (x + 4)))) (n := 3) (k := 60) hc1
  have hc2 := mna_ck (m := (sr (am_new (sr (am_new (sr (am_new (sr (am_new m 13 3) x 0 (some (x + 1))) 13 3) x 1 (some (x + 2))) 13 3) x 2 (some (x + 3))) 13 3) x 3 (some (x + 4)))) (n := 3) (k := 60) hc2
  have hc3 := mna_ck (m := (sr (am_new (sr (am_new (sr (am_new (sr (am_new m 13 3) x 0 (some (x + 1))) 13 3) x 1 (some (x + 2))) 13 3) x 2 (some (x + 3))) 13 3) x 3 (some (x + 4)))) (n := 3) (k := 60) hc3
  have hc4 := mna_ck (m := (sr (am_new (sr (am_new (sr (am_new (sr (am_new m 13 3) x 0 (some (x + 1))) 13 3) x 1 (some (x + 2))) 13 3) x 2 (some (x + 3))) 13 3) x 3 (some (x + 4)))) (n := 3) (k := 60) hc4
  have ho := mna_ok (m := (sr (am_new (sr (am_new (sr (am_new (sr (am_new m 13 3) x 0 (some (x + 1))) 13 3) x 1 (some (x + 2))) 13 3) x 2 (some (x + 3))) 13 3) x 3 (some (x + 4)))) (n := 3) (k := 60) ho
  have hz : mz (mnaM (sr (am_new (sr (am_new (sr (am_new (sr (am_new m 13 3) x 0 (some (x + 1))) 13 3) x 1 (some (x + 2))) 13 3) x 2 (some (x + 3))) 13 3) x 3 (some (x + 4))) 3 60) = (x + 9) := by show mz (sr (am_new (sr (am_new (sr (am_new (sr (am_new m 13 3) x 0 (some (x + 1))) 13 3) x 1 (some (x + 2))) 13 3) x 2 (some (x + 3))) 13 3) x 3 (some (x + 4))) + 1 + 3 = _; rw [hz]
  refine j_putFR rfl f_X3_26 rfl rfl (fun _ => ⟨rfl, rfl⟩) rfl ho.1 ho.2 ?_
  have hr0 := sr_rf (m := (mnaM (sr (am_new (sr (am_new (sr (am_new (sr (am_new m 13 3) x 0 (some (x + 1))) 13 3) x 1 (some (x + 2))) 13 3) x 2 (some (x + 3))) 13 3) x 3 (some (x + 4))) 3 60)) (o := x) (k := 4) (v := some (x + 5)) (by decide) hr0
  have hr1 := sr_rf (m := (mnaM (sr (am_new (sr (am_new (sr (am_new (sr (am_new m 13 3) x 0 (some (x + 1))) 13 3) x 1 (some (x + 2))) 13 3) x 2 (some (x + 3))) 13 3) x 3 (some (x + 4))) 3 60)) (o := x) (k := 4) (v := some (x + 5)) (by decide) hr1
  have hr2 := sr_rf (m := (mnaM (sr (am_new (sr (am_new (sr (am_new (sr (am_new m 13 3) x 0 (some (x + 1))) 13 3) x 1 (some (x + 2))) 13 3) x 2 (some (x + 3))) 13 3) x 3 (some (x + 4))) 3 60)) (o := x) (k := 4) (v := some (x + 5)) (by decide) hr2
  have hr3 := sr_rf (m := (mnaM (sr (am_new (sr (am_new (sr (am_new (sr (am_new m 13 3) x 0 (some (x + 1))) 13 3) x 1 (some (x + 2))) 13 3) x 2 (some (x + 3))) 13 3) x 3 (some (x + 4))) 3 60)) (o := x) (k := 4) (v := some (x + 5)) (by decide) hr3
  have hr4 : mr (sr (mnaM (sr (am_new (sr (am_new (sr (am_new (sr (am_new m 13 3) x 0 (some (x + 1))) 13 3) x 1 (some (x + 2))) 13 3) x 2 (some (x + 3))) 13 3) x 3 (some (x + 4))) 3 60) x 4 (some (x + 5))) x 4 = some (x + 5) := mr_sr_same _ _ _ _
  refine j_aload_n rfl rfl ?_
  refine j_getR (q := (x + 3)) rfl f_X3_18 rfl ho.1 ho.2 hr2 ?_
  refine j_ldc (v := 99999) rfl k_X3_29 ?_
  refine j_callS (As := [_, _]) rfl okJ7_fill_53178 c_X3_30 (ct_fillI (m := (sr (mnaM (sr (am_new (sr (am_new (sr (am_new (sr (am_new m 13 3) x 0 (some (x + 1))) 13 3) x 1 (some (x + 2))) 13 3) x 2 (some (x + 3))) 13 3) x 3 (some (x + 4))) 3 60) x 4 (some (x + 5)))) (n := 3) hc3.1 hc3.2.1 hc3.2.2 (by decide)) rfl rfl (Nat.le_of_ble_eq_true rfl) (by decide) (by decide) ?_
  rintro vq mq ⟨e1, e2⟩
  rw [e1, e2]
  clear e1 e2
  simp only [Option.toList_some, Option.toList_none, List.cons_append, List.nil_append]
  refine j_aload_n rfl rfl ?_
  refine j_getR (q := (x + 4)) rfl f_X3_21 rfl ho.1 ho.2 hr3 ?_
  refine j_iconst rfl ?_
  refine j_callS (As := [_, _]) rfl okJ7_fill_53178 c_X3_30 (ct_fillI (m := (fil (sr (mnaM (sr (am_new (sr (am_new (sr (am_new (sr (am_new m 13 3) x 0 (some (x + 1))) 13 3) x 1 (some (x + 2))) 13 3) x 2 (some (x + 3))) 13 3) x 3 (some (x + 4))) 3 60) x 4 (some (x + 5))) (x + 3) 0 (3 : Nat) 99999)) (n := 3) hc4.1 hc4.2.1 hc4.2.2 (by decide)) rfl rfl (Nat.le_of_ble_eq_true rfl) (by decide) (by decide) ?_
  rintro vq mq ⟨e1, e2⟩
  rw [e1, e2]
  clear e1 e2
  simp only [Option.toList_some, Option.toList_none, List.cons_append, List.nil_append]
  refine j_vret rfl rfl ?_ rfl (Nat.le_refl _)
  exact ⟨rfl, rfl⟩


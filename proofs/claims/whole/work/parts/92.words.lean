/-! a word of the class, and what it is made of -/
theorem bt_shr3 (x : Int) {k i : Nat} (hk : k < 32) (hi : i < 32) (h : 32 ≤ k + i) : bt (z_ishr x k) i = bt x 31 := by
  unfold bt
  rw [zi_ishr, sh_toNat hk, Int32.toBitVec_shiftRight]
  have e : ((zi (k : Int)).toBitVec.smod 32).toNat = k := by
    have : ∀ k : Fin 32, ((zi ((k : Nat) : Int)).toBitVec.smod 32).toNat = (k : Nat) := by decide +kernel
    exact this ⟨k, hk⟩
  rw [BitVec.sshiftRight_eq', e, BitVec.getLsbD_sshiftRight, BitVec.msb_eq_getLsbD_last]
  have h1 : ¬ 32 ≤ i := by omega
  have h2 : ¬ k + i < 32 := by omega
  simp [h1, h2]
theorem bt_w20 {w : Nat} (hw : w < 17) {i : Nat} (hi : i < 32) : bt (z_ishl (w : Int) 20) i = (decide (20 ≤ i) && bt w (i - 20)) := by
  have : ∀ (w : Fin 17) (i : Fin 32), bt (z_ishl ((w : Nat) : Int) 20) i = (decide (20 ≤ (i : Nat)) && bt ((w : Nat) : Int) ((i : Nat) - 20)) := by decide +kernel
  exact this ⟨w, hw⟩ ⟨i, hi⟩
theorem bt_m20 {i : Nat} (hi : i < 32) : bt 1048575 i = decide (i < 20) := by
  have : ∀ i : Fin 32, bt 1048575 i = decide ((i : Nat) < 20) := by decide +kernel
  exact this ⟨i, hi⟩
theorem wd_what {w : Nat} {v : Int} (hw : w < 17) (h0 : 0 ≤ v) (h1 : v < 2 ^ 20) : z_ishr (wdC (w, v)) 20 = w := by
  refine bt_ext (z_ishr_rng _ _).1 (z_ishr_rng _ _).2 (by omega) (by omega) (fun i hi => ?_)
  show bt (z_ishr (z_ior (z_ishl (w : Int) 20) v) ((20 : Nat) : Int)) i = _
  by_cases hk : 20 + i < 32
  · rw [bt_shr2 _ hk, bt_or, bt_w20 hw hk, bt_hi h0 h1 (by decide) (by omega), show 20 + i - 20 = i by omega]
    simp
  · rw [bt_shr3 _ (by decide) hi (by omega), bt_or, bt_w20 hw (by decide), bt_hi h0 h1 (by decide) (by decide)]
    have e : ∀ j : Nat, 5 ≤ j → bt (w : Int) j = false := fun j hj => bt_hi (k := 5) (by omega) (by omega) (by decide) hj
    rw [e i (by omega), e (31 - 20) (by decide)]
    simp
theorem wd_number {w : Nat} {v : Int} (hw : w < 17) (h0 : 0 ≤ v) (h1 : v < 2 ^ 20) : z_iand (wdC (w, v)) 1048575 = v := by
  refine bt_ext (z_iand_rng _ _).1 (z_iand_rng _ _).2 (by omega) (by omega) (fun i hi => ?_)
  show bt (z_iand (z_ior (z_ishl (w : Int) 20) v) 1048575) i = _
  rw [bt_and, bt_or, bt_w20 hw hi, bt_m20 hi]
  by_cases hk : i < 20
  · have e : ¬ 20 ≤ i := by omega
    simp [hk, e]
  · rw [bt_hi h0 h1 (by decide) (show 20 ≤ i by omega)]
    simp [hk]
/-- the class joins as the spec says -/
theorem join_spec (m : AM) {w : Nat} (hw : 7 ≤ w ∧ w ≤ 16) (a b : Int) : (FX10_join m w a b).2 = (if (sJN w a b).1 = 0 then m else si m 17 9 (sJN w a b).1) ∧ ((sJN w a b).1 = 0 → (FX10_join m w a b).1 = (sJN w a b).2) := by
  have h : w = 7 ∨ w = 8 ∨ w = 9 ∨ w = 10 ∨ w = 11 ∨ w = 12 ∨ w = 13 ∨ w = 14 ∨ w = 15 ∨ w = 16 := by omega
  rcases h with rfl | rfl | rfl | rfl | rfl | rfl | rfl | rfl | rfl | rfl <;> (unfold FX10_join sJN; constructor <;> simp <;> (repeat' split) <;> first | rfl | (simp_all; done) | (exfalso; omega) | (intros; first | rfl | (exfalso; omega) | omega | (simp_all; done)))


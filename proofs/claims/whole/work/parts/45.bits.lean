/-! bits of numbers -/ 
/-- bit i of a number -/
def bt (x : Int) (i : Nat) : Bool := (zi x).toBitVec.getLsbD i
theorem bt_and (a b : Int) (i : Nat) : bt (z_iand a b) i = (bt a i && bt b i) := by
  unfold bt
  rw [zi_iand, Int32.toBitVec_and, BitVec.getLsbD_and]
theorem bt_or (a b : Int) (i : Nat) : bt (z_ior a b) i = (bt a i || bt b i) := by
  unfold bt
  rw [zi_ior, Int32.toBitVec_or, BitVec.getLsbD_or]
theorem bt_not (a : Int) {i : Nat} (h : i < 32) : bt (z_ixor a (-1)) i = !bt a i := by
  unfold bt
  rw [zi_ixor, Int32.toBitVec_xor, BitVec.getLsbD_xor, show (zi (-1)).toBitVec = BitVec.allOnes 32 from by decide, BitVec.getLsbD_allOnes]
  simp [h]
theorem bt_0 (i : Nat) : bt 0 i = false := by
  unfold bt
  rw [show (zi 0).toBitVec = 0#32 from by decide, BitVec.getLsbD_zero]
theorem bt_ext {a b : Int} (ha : -2147483648 ≤ a) (ha2 : a < 2147483648) (hb : -2147483648 ≤ b) (hb2 : b < 2147483648) (h : ∀ i : Nat, i < 32 → bt a i = bt b i) : a = b := by
  have e : (zi a).toBitVec = (zi b).toBitVec := BitVec.eq_of_getLsbD_eq h
  have e2 : zi a = zi b := Int32.toBitVec_inj.mp e
  rw [← zi_toInt ha ha2, ← zi_toInt hb hb2, e2]
theorem sh_toNat {k : Nat} (h : k < 32) : zi (k : Int) &&& 31 = zi (k : Int) := by
  have : ∀ k : Fin 32, zi ((k : Nat) : Int) &&& 31 = zi ((k : Nat) : Int) := by decide +kernel
  exact this ⟨k, h⟩
theorem bt_shl {k : Nat} (hk : k < 32) {i : Nat} (hi : i < 32) : bt (z_ishl 1 k) i = decide (i = k) := by
  have : ∀ k i : Fin 32, bt (z_ishl 1 ((k : Nat) : Int)) i = decide ((i : Nat) = (k : Nat)) := by decide +kernel
  exact this ⟨k, hk⟩ ⟨i, hi⟩
theorem bt_shr (x : Int) {k : Nat} (hk : k < 32) : bt (z_ishr x k) 0 = bt x k := by
  unfold bt
  rw [zi_ishr, sh_toNat hk, Int32.toBitVec_shiftRight]
  have e : ((zi (k : Int)).toBitVec.smod 32).toNat = k := by
    have : ∀ k : Fin 32, ((zi ((k : Nat) : Int)).toBitVec.smod 32).toNat = (k : Nat) := by decide +kernel
    exact this ⟨k, hk⟩
  rw [BitVec.sshiftRight_eq', e, BitVec.getLsbD_sshiftRight]
  simp [hk]
theorem one_bits : ∀ i : Nat, i < 32 → bt 1 i = decide (i = 0) := by
  have : ∀ i : Fin 32, bt 1 i = decide ((i : Nat) = 0) := by decide +kernel
  exact fun i hi => this ⟨i, hi⟩
theorem and_one (x : Int) : z_iand x 1 = if bt x 0 then 1 else 0 := by
  refine bt_ext (Int32.minValue_le_toInt _) (Int32.toInt_lt _) (by split <;> decide) (by split <;> decide) (fun i hi => ?_)
  rw [bt_and, one_bits i hi]
  by_cases h0 : i = 0
  · subst h0
    cases h : bt x 0
    · simp [bt_0]
    · simp [one_bits 0 (by decide)]
  · split <;> simp [h0, bt_0, one_bits i hi]
theorem bit_of (x : Int) {k : Nat} (hk : k < 32) : z_iand (z_ishr x k) 1 = if bt x k then 1 else 0 := by
  rw [and_one, bt_shr x hk]
theorem zero_of {x : Int} (h : -2147483648 ≤ x) (h2 : x < 2147483648) : x = 0 ↔ ∀ i : Nat, i < 32 → bt x i = false :=
  ⟨fun e i _ => by rw [e, bt_0], fun g => bt_ext h h2 (by decide) (by decide) (fun i hi => by rw [g i hi, bt_0])⟩
/-- a number from 0 on below 2 to the k has no bit from k on -/
theorem bt_hi {x : Int} {k : Nat} (h0 : 0 ≤ x) (h : x < 2 ^ k) (hk : k < 32) {i : Nat} (hi : k ≤ i) : bt x i = false := by
  unfold bt
  have hx : x < 2147483648 := by
    have : (2:Int) ^ k ≤ 2 ^ 31 := by exact_mod_cast Nat.pow_le_pow_right (by decide) (by omega)
    omega
  have e : (zi x).toBitVec.toNat = x.toNat := by
    show (BitVec.ofInt 32 x).toNat = x.toNat
    rw [BitVec.toNat_ofInt]
    omega
  rw [BitVec.getLsbD, e]
  refine Nat.testBit_lt_two_pow ?_
  have h2 : x.toNat < 2 ^ k := by
    have : ((x.toNat : Nat) : Int) < ((2 ^ k : Nat) : Int) := by
      push_cast
      omega
    exact_mod_cast this
  exact Nat.lt_of_lt_of_le h2 (Nat.pow_le_pow_right (by decide) hi)
theorem bt_shr2 (x : Int) {k i : Nat} (hk : k + i < 32) : bt (z_ishr x k) i = bt x (k + i) := by
  unfold bt
  rw [zi_ishr, sh_toNat (by omega), Int32.toBitVec_shiftRight]
  have e : ((zi (k : Int)).toBitVec.smod 32).toNat = k := by
    have : ∀ k : Fin 32, ((zi ((k : Nat) : Int)).toBitVec.smod 32).toNat = (k : Nat) := by decide +kernel
    exact this ⟨k, by omega⟩
  rw [BitVec.sshiftRight_eq', e, BitVec.getLsbD_sshiftRight]
  have h1 : ¬ 32 ≤ i := by omega
  simp [hk, h1]
theorem toNat_zi {x : Int} (h0 : 0 ≤ x) (h : x < 2147483648) : (zi x).toBitVec.toNat = x.toNat := by
  show (BitVec.ofInt 32 x).toNat = x.toNat
  rw [BitVec.toNat_ofInt]
  omega
theorem lt_of_bits {x : Int} {k : Nat} (h0 : 0 ≤ x) (h2 : x < 2147483648) (hb : ∀ i : Nat, k ≤ i → i < 32 → bt x i = false) : x < 2 ^ k := by
  have hx : x.toNat < 2 ^ k := by
    refine Nat.lt_pow_two_of_testBit _ (fun i hi => ?_)
    by_cases h : i < 32
    · have := hb i hi h
      unfold bt at this
      rw [BitVec.getLsbD, toNat_zi h0 h2] at this
      exact this
    · refine Nat.testBit_lt_two_pow (Nat.lt_of_lt_of_le (show x.toNat < 2 ^ 32 by omega) (Nat.pow_le_pow_right (by decide) (by omega)))
  have : ((x.toNat : Nat) : Int) < ((2 ^ k : Nat) : Int) := by exact_mod_cast hx
  push_cast at this
  omega
theorem shr_zero {x : Int} {k : Nat} (h0 : 0 ≤ x) (h2 : x < 2147483648) (hk : k < 32) (h : z_ishr x k = 0) : x < 2 ^ k := by
  refine lt_of_bits h0 h2 (fun i h1 hi => ?_)
  have := bt_shr2 x (k := k) (i := i - k) (by omega)
  rw [h, bt_0, show k + (i - k) = i by omega] at this
  exact this.symm
theorem shl_pow {k : Nat} (h : k < 31) : z_ishl 1 k = 2 ^ k := by
  have : ∀ k : Fin 31, z_ishl 1 ((k : Nat) : Int) = 2 ^ (k : Nat) := by decide +kernel
  exact this ⟨k, h⟩
theorem bt_neg (x : Int) (h : -2147483648 ≤ x) (h2 : x < 2147483648) : bt x 31 = decide (x < 0) := by
  have e : bt x 31 = (zi x).toBitVec.msb := by
    unfold bt
    rw [BitVec.msb_eq_getLsbD_last]
  have e2 : (zi x).toBitVec.toInt = x := zi_toInt h h2
  rw [e, BitVec.msb_eq_toInt, e2]
theorem zand_not_self (x : Int) : z_iand x (z_ixor x (-1)) = 0 := by
  refine bt_ext (Int32.minValue_le_toInt _) (Int32.toInt_lt _) (by decide) (by decide) (fun i hi => ?_)
  rw [bt_and, bt_not _ hi, bt_0]
  simp
theorem and_not_zero {x y : Int} (h : z_iand x (z_ixor y (-1)) = 0) {i : Nat} (hi : i < 32) (hx : bt x i = true) : bt y i = true := by
  have := bt_0 i
  rw [← h, bt_and, bt_not _ hi, hx] at this
  simpa using this

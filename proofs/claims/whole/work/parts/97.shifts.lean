theorem w32_64 (x : Int) : w32 (w64 x) = w32 x := Int.bmod_bmod_of_dvd (by decide)
theorem w64_p (x p : Int) : w64 (x % 18446744073709551616 * p) = w64 (x * p) := by
  unfold w64
  rw [Int.mul_comm, Int.mul_comm x p]
  exact Int.mul_emod_bmod x 18446744073709551616
theorem w32_p (x p : Int) : w32 (x % 4294967296 * p) = w32 (x * p) := by
  unfold w32
  rw [Int.mul_comm, Int.mul_comm x p]
  exact Int.mul_emod_bmod x 4294967296
theorem sh64 : ∀ s : Nat, s < 64 → (((Int32.ofInt (s : Int)).toInt64 &&& 63).toBitVec.smod 64).toNat = s := by decide +kernel
theorem sh32 : ∀ s : Nat, s < 32 → (((Int32.ofInt (s : Int)) &&& 31).toBitVec.smod 32).toNat = s := by decide +kernel
theorem lshl_w (x : Int) (s : Nat) (h : s < 64) : o_lshl x s = w64 (x * (2 ^ s : Nat)) := by
  show BitVec.toInt (BitVec.ofInt 64 x <<< (((Int32.ofInt (s : Int)).toInt64 &&& 63).toBitVec.smod 64)) = _
  rw [BitVec.shiftLeft_eq', sh64 s h, BitVec.toInt_shiftLeft, BitVec.toNat_ofInt, Nat.shiftLeft_eq, Int.natCast_mul, Int.toNat_of_nonneg (by omega)]
  exact w64_p x _
theorem ishl_w (x : Int) (s : Nat) (h : s < 32) : o_ishl x s = w32 (x * (2 ^ s : Nat)) := by
  show BitVec.toInt (BitVec.ofInt 32 x <<< (((Int32.ofInt (s : Int)) &&& 31).toBitVec.smod 32)) = _
  rw [BitVec.shiftLeft_eq', sh32 s h, BitVec.toInt_shiftLeft, BitVec.toNat_ofInt, Nat.shiftLeft_eq, Int.natCast_mul, Int.toNat_of_nonneg (by omega)]
  exact w32_p x _
theorem lshr_w (x : Int) (s : Nat) (h : s < 64) : o_lshr x s = w64 x >>> s := by
  show BitVec.toInt (BitVec.sshiftRight' (BitVec.ofInt 64 x) (((Int32.ofInt (s : Int)).toInt64 &&& 63).toBitVec.smod 64)) = _
  rw [BitVec.sshiftRight_eq', sh64 s h, BitVec.toInt_sshiftRight, BitVec.toInt_ofInt]
  rfl
theorem ishr_w (x : Int) (s : Nat) (h : s < 32) : o_ishr x s = w32 x >>> s := by
  show BitVec.toInt (BitVec.sshiftRight' (BitVec.ofInt 32 x) (((Int32.ofInt (s : Int)) &&& 31).toBitVec.smod 32)) = _
  rw [BitVec.sshiftRight_eq', sh32 s h, BitVec.toInt_sshiftRight, BitVec.toInt_ofInt]
  rfl
theorem land_31 (x : Int) : o_land x 31 = x % 32 := by
  have h2 : (Int64.ofInt x).toBitVec.toNat = (x % ((2 ^ 64 : Nat) : Int)).toNat := BitVec.toNat_ofInt ..
  have e : ((Int64.ofInt x) &&& (Int64.ofInt 31)).toBitVec.toNat = (x % ((2 ^ 64 : Nat) : Int)).toNat % 2 ^ 5 := by
    rw [Int64.toBitVec_and, BitVec.toNat_and, h2, show (Int64.ofInt 31).toBitVec.toNat = 2 ^ 5 - 1 from rfl, Nat.and_two_pow_sub_one_eq_mod]
  have e2 : o_land x 31 = ((((Int64.ofInt x) &&& (Int64.ofInt 31)).toBitVec.toNat : Nat) : Int) := by
    show BitVec.toInt _ = _
    exact BitVec.toInt_eq_toNat_of_lt (by rw [e]; omega)
  rw [e] at e2
  omega
theorem iand_31 (x : Int) : o_iand x 31 = x % 32 := by
  have h2 : (Int32.ofInt x).toBitVec.toNat = (x % ((2 ^ 32 : Nat) : Int)).toNat := BitVec.toNat_ofInt ..
  have e : ((Int32.ofInt x) &&& (Int32.ofInt 31)).toBitVec.toNat = (x % ((2 ^ 32 : Nat) : Int)).toNat % 2 ^ 5 := by
    rw [Int32.toBitVec_and, BitVec.toNat_and, h2, show (Int32.ofInt 31).toBitVec.toNat = 2 ^ 5 - 1 from rfl, Nat.and_two_pow_sub_one_eq_mod]
  have e2 : o_iand x 31 = ((((Int32.ofInt x) &&& (Int32.ofInt 31)).toBitVec.toNat : Nat) : Int) := by
    show BitVec.toInt _ = _
    exact BitVec.toInt_eq_toNat_of_lt (by rw [e]; omega)
  rw [e] at e2
  omega
theorem by_31 (y : Int) : w32 (o_land y 31) = o_iand (w32 y) 31 := by
  have h1 := w32_in y
  have h2 : w32 y % 4294967296 = y % 4294967296 := Int.bmod_emod ..
  rw [land_31, iand_31, w32_id (by omega)]
  omega
theorem land_63 (x : Int) : o_land x 63 = x % 64 := by
  have h2 : (Int64.ofInt x).toBitVec.toNat = (x % ((2 ^ 64 : Nat) : Int)).toNat := BitVec.toNat_ofInt ..
  have e : ((Int64.ofInt x) &&& (Int64.ofInt 63)).toBitVec.toNat = (x % ((2 ^ 64 : Nat) : Int)).toNat % 2 ^ 6 := by
    rw [Int64.toBitVec_and, BitVec.toNat_and, h2, show (Int64.ofInt 63).toBitVec.toNat = 2 ^ 6 - 1 from rfl, Nat.and_two_pow_sub_one_eq_mod]
  have e2 : o_land x 63 = ((((Int64.ofInt x) &&& (Int64.ofInt 63)).toBitVec.toNat : Nat) : Int) := by
    show BitVec.toInt _ = _
    exact BitVec.toInt_eq_toNat_of_lt (by rw [e]; omega)
  rw [e] at e2
  omega
theorem iand_63 (x : Int) : o_iand x 63 = x % 64 := by
  have h2 : (Int32.ofInt x).toBitVec.toNat = (x % ((2 ^ 32 : Nat) : Int)).toNat := BitVec.toNat_ofInt ..
  have e : ((Int32.ofInt x) &&& (Int32.ofInt 63)).toBitVec.toNat = (x % ((2 ^ 32 : Nat) : Int)).toNat % 2 ^ 6 := by
    rw [Int32.toBitVec_and, BitVec.toNat_and, h2, show (Int32.ofInt 63).toBitVec.toNat = 2 ^ 6 - 1 from rfl, Nat.and_two_pow_sub_one_eq_mod]
  have e2 : o_iand x 63 = ((((Int32.ofInt x) &&& (Int32.ofInt 63)).toBitVec.toNat : Nat) : Int) := by
    show BitVec.toInt _ = _
    exact BitVec.toInt_eq_toNat_of_lt (by rw [e]; omega)
  rw [e] at e2
  omega
theorem by_63 (y : Int) : w32 (o_land y 63) = o_iand (w32 y) 63 := by
  have h1 := w32_in y
  have h2 : w32 y % 4294967296 = y % 4294967296 := Int.bmod_emod ..
  rw [land_63, iand_63, w32_id (by omega)]
  omega
theorem by_rng31 (y : Int) : ∃ s : Nat, s < 32 ∧ o_iand (w32 y) 31 = (s : Int) := by
  rw [iand_31]
  exact ⟨(w32 y % 32).toNat, by omega, by omega⟩
/-- shifts of an int: the model shifts a long and narrows, the desk shifts an int -/
theorem shl_i {x : Int} (s : Nat) (h : s < 32) : w32 (o_lshl x s) = o_ishl (w32 x) s := by
  rw [lshl_w x s (by omega), ishl_w (w32 x) s h, w32_64]
  unfold w32
  rw [Int.bmod_mul_bmod]
theorem shr_i {x : Int} (hx : w32 x = x) (s : Nat) (h : s < 32) : w32 (o_lshr x s) = o_ishr (w32 x) s := by
  have hr := w32_in x
  have e : o_lshr x s = o_ishr x s := by
    rw [lshr_w x s (by omega), ishr_w x s h, w64_id (by omega), hx]
  rw [e, hx]
  exact w32_id (i32_rng _)
theorem ushr_i {x y : Int} : w32 (o_iushr x y) = o_iushr x y := w32_id (i32_rng _)
theorem cast_ch (x : Int) : o_land x 65535 = w32 x % 65536 := by
  have h2 : w32 x % 4294967296 = x % 4294967296 := Int.bmod_emod ..
  rw [(land_ch x).2.2]
  omega

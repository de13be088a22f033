def pcn : Nat → Nat → Nat
  | 0, _ => 0
  | n + 1, x => x % 2 + pcn n (x / 2)
def bs1 (m x : Nat) : Nat := x - (x / 2 &&& m)
def bs2 (m y : Nat) : Nat := (y &&& m) + (y / 4 &&& m)
def bs3 (m z : Nat) : Nat := (z + z / 16) &&& m
def bs4 (w : Nat) : Nat := w + w / 256
def bs5 (v : Nat) : Nat := v + v / 65536
theorem bs_chk : ∀ l : Nat, l < 256 → bs2 51 (bs1 85 l) ≤ 68 ∧ bs2 51 (bs1 85 l) % 16 ≤ 4 ∧ bs3 15 (bs2 51 (bs1 85 l)) = pcn 8 l ∧ pcn 8 l ≤ 8 := by decide +kernel
theorem bs_and {l h ml mh : Nat} (hl : l < 256) (hm : ml < 256) : (l + 256 * h) &&& (ml + 256 * mh) = (l &&& ml) + 256 * (h &&& mh) := by
  have e1 : ((l + 256 * h) &&& (ml + 256 * mh)) % 2 ^ 8 = (l &&& ml) := by
    rw [Nat.and_mod_two_pow, show (l + 256 * h) % 2 ^ 8 = l by omega, show (ml + 256 * mh) % 2 ^ 8 = ml by omega]
  have e2 : ((l + 256 * h) &&& (ml + 256 * mh)) / 2 ^ 8 = (h &&& mh) := by
    rw [Nat.and_div_two_pow, show (l + 256 * h) / 2 ^ 8 = h by omega, show (ml + 256 * mh) / 2 ^ 8 = mh by omega]
  omega
theorem bs_low {a m n : Nat} (hm : m < 2 ^ n) : a &&& m = (a % 2 ^ n) &&& m := by
  have e1 := @Nat.and_mod_two_pow a m n
  rw [Nat.mod_eq_of_lt hm, Nat.mod_eq_of_lt (Nat.and_lt_two_pow a hm)] at e1
  exact e1
theorem bs1_s {l h m : Nat} (hl : l < 256) : bs1 (85 + 256 * m) (l + 256 * h) = bs1 85 l + 256 * bs1 m h := by
  unfold bs1
  rw [show (l + 256 * h) / 2 = (l / 2 + 128 * (h % 2)) + 256 * (h / 2) by omega, bs_and (by omega) (by omega)]
  rw [@bs_low (l / 2 + 128 * (h % 2)) 85 7 (by decide), show (l / 2 + 128 * (h % 2)) % 2 ^ 7 = l / 2 by omega]
  have a1 : (l / 2 &&& 85) ≤ l / 2 := Nat.and_le_left
  have a2 : (h / 2 &&& m) ≤ h / 2 := Nat.and_le_left
  omega
theorem bs1_le (m l : Nat) : bs1 m l ≤ l := Nat.sub_le _ _
theorem bs2_s {l h m : Nat} (hl : l < 256) : bs2 (51 + 256 * m) (l + 256 * h) = bs2 51 l + 256 * bs2 m h := by
  unfold bs2
  rw [show (l + 256 * h) / 4 = (l / 4 + 64 * (h % 4)) + 256 * (h / 4) by omega, bs_and (by omega) (by omega), bs_and (by omega) (by omega)]
  rw [@bs_low (l / 4 + 64 * (h % 4)) 51 6 (by decide), show (l / 4 + 64 * (h % 4)) % 2 ^ 6 = l / 4 by omega]
  omega
theorem bs3_s {l h m : Nat} (hl : l ≤ 68) (hh : h % 16 ≤ 4) : bs3 (15 + 256 * m) (l + 256 * h) = bs3 15 l + 256 * bs3 m h := by
  unfold bs3
  rw [show l + 256 * h + (l + 256 * h) / 16 = (l + l / 16 + 16 * (h % 16)) + 256 * (h + h / 16) by omega, bs_and (by omega) (by omega)]
  rw [@bs_low (l + l / 16 + 16 * (h % 16)) 15 4 (by decide), @bs_low (l + l / 16) 15 4 (by decide), show (l + l / 16 + 16 * (h % 16)) % 2 ^ 4 = (l + l / 16) % 2 ^ 4 by omega]
theorem pcn_s : ∀ (a b x : Nat), pcn (a + b) x = pcn a (x % 2 ^ a) + pcn b (x / 2 ^ a) := by
  intro a
  induction a with
  | zero => intro b x; simp [pcn]
  | succ a ih =>
    intro b x
    rw [show a + 1 + b = (a + b) + 1 by omega]
    show x % 2 + pcn (a + b) (x / 2) = (x % 2 ^ (a + 1)) % 2 + pcn a (x % 2 ^ (a + 1) / 2) + pcn b (x / 2 ^ (a + 1))
    rw [ih b (x / 2), Nat.div_div_eq_div_mul, show 2 * 2 ^ a = 2 ^ (a + 1) by rw [Nat.pow_succ]; omega]
    have e1 : x % 2 ^ (a + 1) % 2 = x % 2 := Nat.mod_mod_of_dvd _ ⟨2 ^ a, by rw [Nat.pow_succ]; omega⟩
    have e2 : x % 2 ^ (a + 1) / 2 = x / 2 % 2 ^ a := by
      rw [show (2 : Nat) ^ (a + 1) = 2 * 2 ^ a by rw [Nat.pow_succ]; omega, Nat.mod_mul_right_div_self]
    rw [e1, e2]; omega
theorem bc_all {x : Nat} (hx : x < 268435456) : bs1 1431655765 x ≤ x ∧ bs2 858993459 (bs1 1431655765 x) < 1879048192 ∧ bs3 252645135 (bs2 858993459 (bs1 1431655765 x)) < 536870912 ∧ bs4 (bs3 252645135 (bs2 858993459 (bs1 1431655765 x))) < 1073741824 ∧ bs5 (bs4 (bs3 252645135 (bs2 858993459 (bs1 1431655765 x)))) < 2147483648 ∧ (bs5 (bs4 (bs3 252645135 (bs2 858993459 (bs1 1431655765 x)))) &&& 63) = pcn 32 x := by
  obtain ⟨b0, b1, b2, b3, h0, h1, h2, h3, rfl⟩ : ∃ b0 b1 b2 b3, b0 < 256 ∧ b1 < 256 ∧ b2 < 256 ∧ b3 < 16 ∧ x = b0 + 256 * (b1 + 256 * (b2 + 256 * b3)) := ⟨x % 256, x / 256 % 256, x / 65536 % 256, x / 16777216, by omega, by omega, by omega, by omega, by omega⟩
  obtain ⟨c0, d0, e0, f0⟩ := bs_chk b0 h0
  obtain ⟨c1, d1, e1, f1⟩ := bs_chk b1 h1
  obtain ⟨c2, d2, e2, f2⟩ := bs_chk b2 h2
  obtain ⟨c3, d3, e3, f3⟩ := bs_chk b3 (by omega)
  have g0 := bs1_le 85 b0
  have g1 := bs1_le 85 b1
  have g2 := bs1_le 85 b2
  have g3 := bs1_le 85 b3
  have q1 : bs1 1431655765 (b0 + 256 * (b1 + 256 * (b2 + 256 * b3))) = bs1 85 b0 + 256 * (bs1 85 b1 + 256 * (bs1 85 b2 + 256 * bs1 85 b3)) := by
    rw [show 1431655765 = 85 + 256 * (85 + 256 * (85 + 256 * 85)) by rfl, bs1_s h0, bs1_s h1, bs1_s h2]
  have q2 : bs2 858993459 (bs1 1431655765 (b0 + 256 * (b1 + 256 * (b2 + 256 * b3)))) = bs2 51 (bs1 85 b0) + 256 * (bs2 51 (bs1 85 b1) + 256 * (bs2 51 (bs1 85 b2) + 256 * bs2 51 (bs1 85 b3))) := by
    rw [q1, show 858993459 = 51 + 256 * (51 + 256 * (51 + 256 * 51)) by rfl, bs2_s (by omega), bs2_s (by omega), bs2_s (by omega)]
  have q3 : bs3 252645135 (bs2 858993459 (bs1 1431655765 (b0 + 256 * (b1 + 256 * (b2 + 256 * b3))))) = pcn 8 b0 + 256 * (pcn 8 b1 + 256 * (pcn 8 b2 + 256 * pcn 8 b3)) := by
    rw [q2, show 252645135 = 15 + 256 * (15 + 256 * (15 + 256 * 15)) by rfl, bs3_s (by omega) (by omega), bs3_s (by omega) (by omega), bs3_s (by omega) (by omega), e0, e1, e2, e3]
  have q4 : pcn 32 (b0 + 256 * (b1 + 256 * (b2 + 256 * b3))) = pcn 8 b0 + (pcn 8 b1 + (pcn 8 b2 + pcn 8 b3)) := by
    have z1 : pcn 32 (b0 + 256 * (b1 + 256 * (b2 + 256 * b3))) = pcn 8 ((b0 + 256 * (b1 + 256 * (b2 + 256 * b3))) % 2 ^ 8) + pcn 24 ((b0 + 256 * (b1 + 256 * (b2 + 256 * b3))) / 2 ^ 8) := pcn_s 8 24 _
    have z2 : pcn 24 (b1 + 256 * (b2 + 256 * b3)) = pcn 8 ((b1 + 256 * (b2 + 256 * b3)) % 2 ^ 8) + pcn 16 ((b1 + 256 * (b2 + 256 * b3)) / 2 ^ 8) := pcn_s 8 16 _
    have z3 : pcn 16 (b2 + 256 * b3) = pcn 8 ((b2 + 256 * b3) % 2 ^ 8) + pcn 8 ((b2 + 256 * b3) / 2 ^ 8) := pcn_s 8 8 _
    rw [show (b0 + 256 * (b1 + 256 * (b2 + 256 * b3))) % 2 ^ 8 = b0 by omega, show (b0 + 256 * (b1 + 256 * (b2 + 256 * b3))) / 2 ^ 8 = b1 + 256 * (b2 + 256 * b3) by omega] at z1
    rw [show (b1 + 256 * (b2 + 256 * b3)) % 2 ^ 8 = b1 by omega, show (b1 + 256 * (b2 + 256 * b3)) / 2 ^ 8 = b2 + 256 * b3 by omega] at z2
    rw [show (b2 + 256 * b3) % 2 ^ 8 = b2 by omega, show (b2 + 256 * b3) / 2 ^ 8 = b3 by omega] at z3
    omega
  have q5 : ∀ y : Nat, y &&& 63 = y % 64 := fun y => Nat.and_two_pow_sub_one_eq_mod y 6
  refine ⟨Nat.sub_le _ _, by rw [q2]; omega, by rw [q3]; omega, ?_, ?_, ?_⟩
  · rw [q3]; unfold bs4; omega
  · rw [q3]; unfold bs5 bs4; omega
  · rw [q5, q4, q3]
    clear q1 q2 q3 q4 q5 g0 g1 g2 g3 c0 c1 c2 c3 d0 d1 d2 d3 e0 e1 e2 e3 hx h0 h1 h2 h3
    generalize pcn 8 b0 = p0 at *
    generalize pcn 8 b1 = p1 at *
    generalize pcn 8 b2 = p2 at *
    generalize pcn 8 b3 = p3 at *
    have r1 : bs4 (p0 + 256 * (p1 + 256 * (p2 + 256 * p3))) = (p0 + p1) + 256 * ((p1 + p2) + 256 * ((p2 + p3) + 256 * p3)) := by unfold bs4; omega
    rw [r1]
    have r2 : bs5 ((p0 + p1) + 256 * ((p1 + p2) + 256 * ((p2 + p3) + 256 * p3))) = (p0 + p1 + p2 + p3) + 256 * ((p1 + p2 + p3) + 256 * ((p2 + p3) + 256 * p3)) := by unfold bs5; omega
    rw [r2]
    omega
theorem bv_n {a : Nat} (h : a < 2147483648) : (Int32.ofInt (a : Int)).toBitVec.toNat = a := by
  rw [Int32.toBitVec_ofInt, BitVec.ofInt_natCast, BitVec.toNat_ofNat]; omega
theorem bv_i {x : Int32} (h : x.toBitVec.toNat < 2147483648) : x.toInt = (x.toBitVec.toNat : Int) := by
  show x.toBitVec.toInt = _
  exact BitVec.toInt_eq_toNat_of_lt (by omega)
theorem iand_n {a b : Nat} (ha : a < 2147483648) (hb : b < 2147483648) : o_iand (a : Int) (b : Int) = ((a &&& b : Nat) : Int) := by
  have e : ((Int32.ofInt (a : Int)) &&& (Int32.ofInt (b : Int))).toBitVec.toNat = a &&& b := by
    rw [Int32.toBitVec_and, BitVec.toNat_and, bv_n ha, bv_n hb]
  unfold o_iand
  rw [bv_i (by rw [e]; exact Nat.lt_of_le_of_lt Nat.and_le_left ha), e]
theorem ior_n {a b : Nat} (ha : a < 2147483648) (hb : b < 2147483648) : o_ior (a : Int) (b : Int) = ((a ||| b : Nat) : Int) := by
  have e : ((Int32.ofInt (a : Int)) ||| (Int32.ofInt (b : Int))).toBitVec.toNat = a ||| b := by
    rw [Int32.toBitVec_or, BitVec.toNat_or, bv_n ha, bv_n hb]
  unfold o_ior
  rw [bv_i (by rw [e]; exact Nat.or_lt_two_pow (n := 31) ha hb), e]
theorem iushr_k {a k : Nat} {s : Int} (hs : (Int32.ofInt s).toUInt32 &&& Int32.toUInt32 31 = UInt32.ofNat k) (hk : k < 32) (ha : a < 2147483648) : o_iushr (a : Int) s = ((a / 2 ^ k : Nat) : Int) := by
  unfold o_iushr
  rw [hs]
  have e : ((Int32.ofInt (a : Int)).toUInt32 >>> UInt32.ofNat k).toInt32.toBitVec.toNat = a / 2 ^ k := by
    show ((Int32.ofInt (a : Int)).toUInt32 >>> UInt32.ofNat k).toBitVec.toNat = a / 2 ^ k
    rw [UInt32.toBitVec_shiftRight]
    show ((Int32.ofInt (a : Int)).toBitVec >>> ((UInt32.ofNat k).toBitVec % 32)).toNat = a / 2 ^ k
    rw [BitVec.ushiftRight_eq', BitVec.toNat_ushiftRight, bv_n ha, Nat.shiftRight_eq_div_pow]
    have e2 : ((UInt32.ofNat k).toBitVec % 32).toNat = k := by
      show (UInt32.ofNat k).toBitVec.toNat % 32 = k
      show (k % 4294967296) % 32 = k
      omega
    rw [e2]
  rw [bv_i (by rw [e]; exact Nat.lt_of_le_of_lt (Nat.div_le_self _ _) ha), e]
theorem iushr_1 {a : Nat} (ha : a < 2147483648) : o_iushr (a : Int) 1 = ((a / 2 : Nat) : Int) := iushr_k (k := 1) (by decide) (by decide) ha
theorem iushr_2 {a : Nat} (ha : a < 2147483648) : o_iushr (a : Int) 2 = ((a / 4 : Nat) : Int) := iushr_k (k := 2) (by decide) (by decide) ha
theorem iushr_4 {a : Nat} (ha : a < 2147483648) : o_iushr (a : Int) 4 = ((a / 16 : Nat) : Int) := iushr_k (k := 4) (by decide) (by decide) ha
theorem iushr_8 {a : Nat} (ha : a < 2147483648) : o_iushr (a : Int) 8 = ((a / 256 : Nat) : Int) := iushr_k (k := 8) (by decide) (by decide) ha
theorem iushr_16 {a : Nat} (ha : a < 2147483648) : o_iushr (a : Int) 16 = ((a / 65536 : Nat) : Int) := iushr_k (k := 16) (by decide) (by decide) ha
theorem pcn_0 : ∀ n : Nat, pcn n 0 = 0 := by
  intro n
  induction n with
  | zero => rfl
  | succ n ih => show 0 % 2 + pcn n (0 / 2) = 0; simpa using ih
theorem pcn_add : ∀ (b n x : Nat), b < n → x / 2 ^ b % 2 = 0 → pcn n (x + 2 ^ b) = pcn n x + 1 := by
  intro b
  induction b with
  | zero =>
    intro n x hb h
    obtain ⟨n, rfl⟩ : ∃ q, n = q + 1 := ⟨n - 1, by omega⟩
    show (x + 2 ^ 0) % 2 + pcn n ((x + 2 ^ 0) / 2) = x % 2 + pcn n (x / 2) + 1
    rw [Nat.pow_zero, Nat.div_one] at h
    rw [Nat.pow_zero, show (x + 1) / 2 = x / 2 by omega]
    omega
  | succ b ih =>
    intro n x hb h
    obtain ⟨n, rfl⟩ : ∃ q, n = q + 1 := ⟨n - 1, by omega⟩
    show (x + 2 ^ (b + 1)) % 2 + pcn n ((x + 2 ^ (b + 1)) / 2) = x % 2 + pcn n (x / 2) + 1
    have e : 2 ^ (b + 1) = 2 * 2 ^ b := by rw [Nat.pow_succ]; omega
    rw [e, ← Nat.div_div_eq_div_mul] at h
    rw [e, show (x + 2 * 2 ^ b) / 2 = x / 2 + 2 ^ b by omega, ih n (x / 2) (by omega) h]
    omega
theorem or_add : ∀ (b x : Nat), x / 2 ^ b % 2 = 0 → x ||| 2 ^ b = x + 2 ^ b := by
  intro b x h
  apply Nat.eq_of_testBit_eq
  intro i
  rw [Nat.testBit_or, Nat.testBit_two_pow]
  have ex : x = 2 ^ (b + 1) * (x / 2 ^ (b + 1)) + x % 2 ^ b := by
    have a1 := Nat.div_add_mod x (2 ^ b)
    have a2 := Nat.div_add_mod (x / 2 ^ b) 2
    rw [h, Nat.div_div_eq_div_mul, ← Nat.pow_succ] at a2
    rw [← a2, Nat.add_zero, ← Nat.mul_assoc, ← Nat.pow_succ] at a1
    exact a1.symm
  have hr : x % 2 ^ b < 2 ^ b := Nat.mod_lt _ (Nat.pow_pos (by decide))
  have hp : 2 ^ (b + 1) = 2 ^ b + 2 ^ b := by rw [Nat.pow_succ]; omega
  have ey : x + 2 ^ b = 2 ^ (b + 1) * (x / 2 ^ (b + 1)) + (x % 2 ^ b + 2 ^ b) := by omega
  rw [ey, Nat.testBit_two_pow_mul_add _ (by omega)]
  conv => lhs; rw [ex, Nat.testBit_two_pow_mul_add _ (by omega)]
  by_cases hi : i < b + 1
  · rw [if_pos hi, if_pos hi]
    rw [Nat.add_comm (x % 2 ^ b)]
    by_cases hib : i = b
    · subst hib
      rw [Nat.testBit_two_pow_add_eq, Nat.testBit_lt_two_pow hr]; simp
    · rw [Nat.testBit_two_pow_add_gt (by omega)]; simp; omega
  · rw [if_neg hi, if_neg hi]; simp; omega

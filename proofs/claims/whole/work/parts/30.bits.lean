/-! sets of members as numbers below 4096 -/
theorem sh_ok : ∀ n, n < 32 → ((nI n &&& 31).toBitVec.smod 32).toNat = n := by decide +kernel
theorem nI_shr {s i : Nat} (hs : s < 2 ^ 31) (hi : i < 32) : nI s >>> (nI i &&& 31) = nI (s / 2 ^ i) := pk_shrN hs _ i (sh_ok i hi)
theorem nI_bit {s i : Nat} (hs : s < 2 ^ 31) (hi : i < 32) : (nI s >>> (nI i &&& 31)) &&& 1 = nI (s / 2 ^ i % 2) := by
  rw [nI_shr hs hi]
  have h := pk_andN (n := s / 2 ^ i) (Nat.lt_of_le_of_lt (Nat.div_le_self _ _) (by omega)) (m := 1) 1 (by decide)
  simpa using h
theorem tb_eq (s i : Nat) : s.testBit i = decide (s / 2 ^ i % 2 = 1) := Nat.testBit_eq_decide_div_mod_eq
theorem bit0 {s i : Nat} (hs : s < 2 ^ 31) (hi : i < 32) : (nI s >>> (nI i &&& 31)) &&& 1 = 0 ↔ s.testBit i = false := by
  rw [nI_bit hs hi, tb_eq, show (0 : Int32) = nI 0 from rfl, nI_eq (by omega) (by omega)]
  rw [decide_eq_false_iff_not]
  omega
theorem bit1 {s i : Nat} (hs : s < 2 ^ 31) (hi : i < 32) : (nI s >>> (nI i &&& 31)) &&& 1 = 1 ↔ s.testBit i = true := by
  rw [nI_bit hs hi, tb_eq, show (1 : Int32) = nI 1 from rfl, nI_eq (by omega) (by omega)]
  rw [decide_eq_true_iff]
theorem shl1 : ∀ i, i < 13 → (1 : Int32) <<< (nI i &&& 31) = nI (2 ^ i) := by decide +kernel
theorem nI_bv (a : Nat) : (nI a).toBitVec = BitVec.ofNat 32 a := rfl
theorem i32_ext {x y : Int32} (h : x.toBitVec = y.toBitVec) : x = y := Int32.toBitVec_inj.mp h
theorem nI_and (a b : Nat) : nI a &&& nI b = nI (a &&& b) := by
  apply i32_ext
  rw [Int32.toBitVec_and, nI_bv, nI_bv, nI_bv]
  apply BitVec.eq_of_getLsbD_eq
  intro i hi
  simp [hi]
theorem nI_or (a b : Nat) : nI a ||| nI b = nI (a ||| b) := by
  apply i32_ext
  rw [Int32.toBitVec_or, nI_bv, nI_bv, nI_bv]
  apply BitVec.eq_of_getLsbD_eq
  intro i hi
  simp [hi]
theorem nI_xor (a b : Nat) : nI a ^^^ nI b = nI (a ^^^ b) := by
  apply i32_ext
  rw [Int32.toBitVec_xor, nI_bv, nI_bv, nI_bv]
  apply BitVec.eq_of_getLsbD_eq
  intro i hi
  simp [hi]
/-- a without b -/
def mns (a b : Nat) : Nat := a ^^^ (a &&& b)
theorem mns_bit (a b i : Nat) : (mns a b).testBit i = (a.testBit i && !b.testBit i) := by
  simp only [mns, Nat.testBit_xor, Nat.testBit_and]
  cases a.testBit i <;> cases b.testBit i <;> rfl
theorem m1_bv : (-1 : Int32).toBitVec = BitVec.allOnes 32 := by decide
theorem nI_mns (a b : Nat) : nI a &&& (nI b ^^^ (-1)) = nI (mns a b) := by
  apply i32_ext
  rw [Int32.toBitVec_and, Int32.toBitVec_xor, nI_bv, nI_bv, nI_bv, m1_bv]
  apply BitVec.eq_of_getLsbD_eq
  intro i hi
  simp only [BitVec.getLsbD_and, BitVec.getLsbD_xor, BitVec.getLsbD_ofNat, BitVec.getLsbD_allOnes, mns_bit, hi, decide_true, Bool.true_and]
  cases a.testBit i <;> cases b.testBit i <;> rfl
theorem tb_lt {a n : Nat} (h : ∀ i, n ≤ i → a.testBit i = false) : a < 2 ^ n := Nat.lt_pow_two_of_testBit a h
theorem tb_ge {a n i : Nat} (h : a < 2 ^ n) (hi : n ≤ i) : a.testBit i = false := Nat.testBit_lt_two_pow (Nat.lt_of_lt_of_le h (Nat.pow_le_pow_right (by decide) hi))
theorem mns_lt {a b n : Nat} (h : a < 2 ^ n) : mns a b < 2 ^ n := tb_lt fun i hi => by rw [mns_bit, tb_ge h hi]; rfl
theorem and_lt2 {a b n : Nat} (h : a < 2 ^ n) : a &&& b < 2 ^ n := tb_lt fun i hi => by rw [Nat.testBit_and, tb_ge h hi]; rfl
theorem or_lt2 {a b n : Nat} (ha : a < 2 ^ n) (hb : b < 2 ^ n) : a ||| b < 2 ^ n := tb_lt fun i hi => by rw [Nat.testBit_or, tb_ge ha hi, tb_ge hb hi]; rfl
theorem tb_zero {s n : Nat} (h : s < 2 ^ n) (hz : ∀ j, j < n → s.testBit j = false) : s = 0 := by
  apply Nat.eq_of_testBit_eq
  intro i
  rw [Nat.zero_testBit]
  by_cases hi : i < n
  · exact hz i hi
  · exact tb_ge h (by omega)

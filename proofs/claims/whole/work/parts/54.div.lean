/-! the program's and the model's division: both are the floor of a * w / s -/
theorem l_shr {a d : Nat} {D : Int64} (hD : (D.toBitVec.smod 64).toNat = d) (h : a < 2 ^ 63) : lN a >>> D = lN (a / 2 ^ d) := by
  have hd : a / 2 ^ d ≤ a := Nat.div_le_self _ _
  apply Int64.toInt_inj.mp
  have e : (lN a >>> D).toInt = (lN a).toInt >>> d := by
    rw [← hD]
    exact BitVec.toInt_sshiftRight ..
  rw [e, Int.shiftRight_eq_div_pow, pk_lT h, pk_lT (by omega)]
  rfl
theorem l_bv (n : Nat) : (lN n).toBitVec = BitVec.ofNat 64 n := rfl
theorem l_ext {x y : Int64} (h : x.toBitVec = y.toBitVec) : x = y := Int64.toBitVec_inj.mp h
theorem l_and (a b : Nat) : lN a &&& lN b = lN (a &&& b) := by
  apply l_ext
  rw [Int64.toBitVec_and, l_bv, l_bv, l_bv]
  apply BitVec.eq_of_getLsbD_eq
  intro i hi
  simp [hi]
theorem l_mask (a k : Nat) : lN a &&& lN (2 ^ k - 1) = lN (a % 2 ^ k) := by
  rw [l_and, Nat.and_two_pow_sub_one_eq_mod]
theorem l_shl20 (a : Nat) : lN a <<< (Int32.toInt64 20 &&& 63) = lN (a * 2 ^ 20) := by
  apply l_ext
  rw [Int64.toBitVec_shiftLeft, l_bv, l_bv, show ((Int32.toInt64 20 &&& 63 : Int64).toBitVec.smod 64) = 20#64 by decide]
  apply BitVec.eq_of_toNat_eq
  rw [BitVec.shiftLeft_eq', BitVec.toNat_shiftLeft, BitVec.toNat_ofNat, BitVec.toNat_ofNat, Nat.shiftLeft_eq, BitVec.toNat_ofNat]
  rw [show 20 % 2 ^ 64 = 20 from rfl, Nat.mod_mul_mod]
theorem par_sh : ∀ i, i < 63 → (((nI (62 - i)).toInt64 &&& 63).toBitVec.smod 64).toNat = 62 - i := by decide +kernel
theorem por_sh : ∀ i, i < 3 → (((shf i).toInt64 &&& 63).toBitVec.smod 64).toNat = 40 - 20 * i := by decide +kernel
/-- one step of a long division in base b: n = q c + r goes to b n + d -/
theorem dv_step {n b d c : Nat} (hc : 0 < c) : (b * n + d) / c = b * (n / c) + (b * (n % c) + d) / c ∧ (b * n + d) % c = (b * (n % c) + d) % c := by
  have e : b * n + d = (b * (n % c) + d) + c * (b * (n / c)) := by
    have h1 := Nat.div_add_mod n c
    have h2 : b * n = b * (c * (n / c) + n % c) := by rw [h1]
    rw [Nat.mul_add, Nat.mul_left_comm] at h2
    omega
  rw [e]
  exact ⟨by rw [Nat.add_mul_div_left _ _ hc]; omega, Nat.add_mul_mod_self_left _ _ _⟩
theorem parS_is {A B C : Nat} (hA : A < 2 ^ 63) (hB : B ≤ C) (hC : 0 < C) (hC2 : C < 2 ^ 61) (i : Nat) (hi : i ≤ 63) : parS (lN A) (lN B) (lN C) i = (lN (A / 2 ^ (63 - i) * B / C), lN (A / 2 ^ (63 - i) * B % C)) := by
  induction i with
  | zero =>
    have h0 : A / 2 ^ 63 = 0 := Nat.div_eq_of_lt hA
    rw [Nat.sub_zero, h0, Nat.zero_mul, Nat.zero_div, Nat.zero_mod]
    rfl
  | succ i ih =>
    have ih := ih (by omega)
    have hbit : A / 2 ^ (63 - (i + 1)) = 2 * (A / 2 ^ (63 - i)) + A / 2 ^ (62 - i) % 2 := by
      have h1 : A / 2 ^ (63 - i) = A / 2 ^ (62 - i) / 2 := by
        rw [Nat.div_div_eq_div_mul, ← Nat.pow_succ, show (62 - i).succ = 63 - i by omega]
      rw [h1, show 63 - (i + 1) = 62 - i by omega]
      omega
    have hr : A / 2 ^ (63 - i) * B % C < C := Nat.mod_lt _ hC
    have hpB : parB (lN A) (lN B) i (lN (A / 2 ^ (63 - i) * B % C)) = lN (2 * (A / 2 ^ (63 - i) * B % C) + A / 2 ^ (62 - i) % 2 * B) := by
      rw [parB, l_shr (par_sh i (by omega)) hA, show (1 : Int64) = lN (2 ^ 1 - 1) from rfl, l_mask, show (2 : Int64) = lN 2 from rfl, lN_mul]
      rcases Nat.mod_two_eq_zero_or_one (A / 2 ^ (62 - i)) with h | h
      · rw [show A / 2 ^ (62 - i) % 2 ^ 1 = 0 from h, if_pos (by decide), Nat.zero_mul, Nat.add_zero, Int64.add_zero]
      · rw [show A / 2 ^ (62 - i) % 2 ^ 1 = 1 from h, if_neg (by decide), Nat.one_mul, lN_add]
    have hlt : 2 * (A / 2 ^ (63 - i) * B % C) + A / 2 ^ (62 - i) % 2 * B < 2 ^ 63 := by
      rcases Nat.mod_two_eq_zero_or_one (A / 2 ^ (62 - i)) with h | h <;> rw [h] <;> omega
    have hs := dv_step (n := A / 2 ^ (63 - i) * B) (b := 2) (d := A / 2 ^ (62 - i) % 2 * B) hC
    rw [show parS (lN A) (lN B) (lN C) (i + 1) = (2 * (parS (lN A) (lN B) (lN C) i).1 + parB (lN A) (lN B) i (parS (lN A) (lN B) (lN C) i).2 / lN C, parB (lN A) (lN B) i (parS (lN A) (lN B) (lN C) i).2 - parB (lN A) (lN B) i (parS (lN A) (lN B) (lN C) i).2 / lN C * lN C) from rfl, ih]
    rw [hpB, pk_lRem hlt hC (by omega), pk_lDiv hlt hC (by omega), show (2 : Int64) = lN 2 from rfl, lN_mul, lN_add, hbit]
    rw [show (2 * (A / 2 ^ (63 - i)) + A / 2 ^ (62 - i) % 2) * B = 2 * (A / 2 ^ (63 - i) * B) + A / 2 ^ (62 - i) % 2 * B by rw [Nat.add_mul, Nat.mul_assoc], hs.1, hs.2]
theorem par_is {A B C : Nat} (hA : A < 2 ^ 63) (hB : B ≤ C) (hC : 0 < C) (hC2 : C < 2 ^ 61) : (parS (lN A) (lN B) (lN C) 63).1 = lN (A * B / C) := by
  rw [parS_is hA hB hC hC2 63 (Nat.le_refl _)]
  simp
theorem porS_is {A B C : Nat} (hA : A < 2 ^ 60) (hB : B ≤ C) (hC : 0 < C) (hC2 : C < 2 ^ 42) (i : Nat) (hi : i ≤ 3) : porS (lN A) (lN B) (lN C) i = (lN (A / 2 ^ (60 - 20 * i) * B / C), lN (A / 2 ^ (60 - 20 * i) * B % C)) := by
  induction i with
  | zero =>
    have h0 : A / 2 ^ 60 = 0 := Nat.div_eq_of_lt hA
    rw [Nat.mul_zero, Nat.sub_zero, h0, Nat.zero_mul, Nat.zero_div, Nat.zero_mod]
    rfl
  | succ i ih =>
    have ih := ih (by omega)
    have hchunk : A / 2 ^ (60 - 20 * (i + 1)) = 2 ^ 20 * (A / 2 ^ (60 - 20 * i)) + A / 2 ^ (40 - 20 * i) % 2 ^ 20 := by
      have h1 : A / 2 ^ (60 - 20 * i) = A / 2 ^ (40 - 20 * i) / 2 ^ 20 := by
        rw [Nat.div_div_eq_div_mul, ← Nat.pow_add, show 40 - 20 * i + 20 = 60 - 20 * i by omega]
      rw [h1, show 60 - 20 * (i + 1) = 40 - 20 * i by omega]
      exact (Nat.div_add_mod _ _).symm
    have hr : A / 2 ^ (60 - 20 * i) * B % C < C := Nat.mod_lt _ hC
    have hT : porT (lN A) (lN B) i (lN (A / 2 ^ (60 - 20 * i) * B % C)) = lN (2 ^ 20 * (A / 2 ^ (60 - 20 * i) * B % C) + A / 2 ^ (40 - 20 * i) % 2 ^ 20 * B) := by
      rw [porT, l_shl20, l_shr (por_sh i (by omega)) (by omega), show (1048575 : Int64) = lN (2 ^ 20 - 1) from rfl, l_mask, lN_mul, lN_add, Nat.mul_comm _ (2 ^ 20)]
    have hch : A / 2 ^ (40 - 20 * i) % 2 ^ 20 < 2 ^ 20 := Nat.mod_lt _ (by decide)
    have hlt : 2 ^ 20 * (A / 2 ^ (60 - 20 * i) * B % C) + A / 2 ^ (40 - 20 * i) % 2 ^ 20 * B < 2 ^ 63 := by
      have h1 : A / 2 ^ (40 - 20 * i) % 2 ^ 20 * B ≤ 2 ^ 20 * C := Nat.mul_le_mul (by omega) hB
      omega
    have hs := dv_step (n := A / 2 ^ (60 - 20 * i) * B) (b := 2 ^ 20) (d := A / 2 ^ (40 - 20 * i) % 2 ^ 20 * B) hC
    rw [show porS (lN A) (lN B) (lN C) (i + 1) = (((porS (lN A) (lN B) (lN C) i).1 <<< (Int32.toInt64 20 &&& 63)) + porT (lN A) (lN B) i (porS (lN A) (lN B) (lN C) i).2 / lN C, porT (lN A) (lN B) i (porS (lN A) (lN B) (lN C) i).2 - porT (lN A) (lN B) i (porS (lN A) (lN B) (lN C) i).2 / lN C * lN C) from rfl, ih]
    rw [hT, pk_lRem hlt hC (by omega), pk_lDiv hlt hC (by omega), l_shl20, lN_add, hchunk]
    rw [show (2 ^ 20 * (A / 2 ^ (60 - 20 * i)) + A / 2 ^ (40 - 20 * i) % 2 ^ 20) * B = 2 ^ 20 * (A / 2 ^ (60 - 20 * i) * B) + A / 2 ^ (40 - 20 * i) % 2 ^ 20 * B by rw [Nat.add_mul, Nat.mul_assoc], hs.1, hs.2, Nat.mul_comm (2 ^ 20) (A / 2 ^ (60 - 20 * i) * B / C)]
theorem por_is {A B C : Nat} (hA : A < 2 ^ 60) (hB : B ≤ C) (hC : 0 < C) (hC2 : C < 2 ^ 42) : por (lN A) (lN B) (lN C) = lN (A * B / C) := by
  rw [por, if_pos (by rw [show (0 : Int64) = lN 0 from rfl, pk_lLT (by decide) (by omega)]; exact hC), porS_is hA hB hC hC2 3 (Nat.le_refl _)]
  simp

/-! longs that are natural numbers -/
def nJ (n : Nat) : Int64 := Int64.ofNat n
theorem nJ_toInt {n : Nat} (h : n < 2 ^ 63) : (nJ n).toInt = (n : Int) := Int64.toInt_ofNat_of_lt h
theorem nJ_add (a b : Nat) : nJ a + nJ b = nJ (a + b) := (Int64.ofNat_add a b).symm
theorem nJ_mul (a b : Nat) : nJ a * nJ b = nJ (a * b) := (Int64.ofNat_mul a b).symm
theorem nJ_sub {a b : Nat} (h : b ≤ a) : nJ a - nJ b = nJ (a - b) := (Int64.ofNat_sub a b h).symm
theorem nJ_i2l {a : Nat} (h : a < 2 ^ 31) : (nI a).toInt64 = nJ a := by
  apply Int64.toInt_inj.mp
  rw [Int32.toInt_toInt64, nI_toInt h, nJ_toInt (by omega)]
theorem nJ_l2i (a : Nat) : (nJ a).toInt32 = nI a := Int64.toInt32_ofNat'
theorem nJ_lt {a b : Nat} (ha : a < 2 ^ 63) (hb : b < 2 ^ 63) : nJ a < nJ b ↔ a < b := by
  rw [Int64.lt_iff_toInt_lt, nJ_toInt ha, nJ_toInt hb]
  omega
theorem nJ_le {a b : Nat} (ha : a < 2 ^ 63) (hb : b < 2 ^ 63) : nJ a ≤ nJ b ↔ a ≤ b := by
  rw [Int64.le_iff_toInt_le, nJ_toInt ha, nJ_toInt hb]
  omega
theorem nJ_eq {a b : Nat} (ha : a < 2 ^ 63) (hb : b < 2 ^ 63) : nJ a = nJ b ↔ a = b := by
  refine ⟨fun h => ?_, fun h => by rw [h]⟩
  have h2 : (nJ a).toInt = (nJ b).toInt := by rw [h]
  rw [nJ_toInt ha, nJ_toInt hb] at h2
  omega
theorem nJ_div {a b : Nat} (ha : a < 2 ^ 63) (hb : b < 2 ^ 63) : nJ a / nJ b = nJ (a / b) := (Int64.ofNat_div ha hb).symm
theorem nJ_xor (a b : Nat) : nJ a ^^^ nJ b = nJ (a ^^^ b) := by
  apply Int64.toBitVec_inj.1
  show BitVec.ofNat 64 a ^^^ BitVec.ofNat 64 b = BitVec.ofNat 64 (a ^^^ b)
  apply BitVec.eq_of_getLsbD_eq
  intro i hi
  simp [hi]
theorem fdv_n {x y : Nat} (hx : x < 2 ^ 63) (hy : y < 2 ^ 63) : fdv (nJ x) (nJ y) = nJ (x / y) := by
  rw [fdv, nJ_xor, if_neg, nJ_div hx hy]
  rintro ⟨a, -⟩
  have h2 : x ^^^ y < 2 ^ 63 := Nat.xor_lt_two_pow hx hy
  exact absurd ((nJ_lt h2 (show 0 < 2 ^ 63 by omega)).mp (show nJ (x ^^^ y) < nJ 0 from a)) (Nat.not_lt_zero _)

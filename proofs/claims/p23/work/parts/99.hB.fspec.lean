/-! the bits of a quotient are those of the nearest float -/
theorem near_sp {Z w c : Nat} (hw : 0 < w) (h : FP.Core.nearest Z w = c) : 2 * (c * w) ≤ 2 * Z + w ∧ 2 * Z ≤ 2 * (c * w) + w ∧ (2 * Z = 2 * (c * w) + w → c % 2 = 0) ∧ (2 * (c * w) = 2 * Z + w → c % 2 = 0) := by
  have hm := Nat.mod_lt Z hw
  have hd := Nat.div_add_mod Z w
  unfold FP.Core.nearest at h
  generalize Z % w = y at *
  generalize Z / w = D at *
  rw [Nat.mul_comm] at hd
  by_cases c1 : 2 * y < w
  · rw [if_pos c1] at h
    subst h
    refine ⟨by omega, by omega, fun z => by omega, fun z => by omega⟩
  · rw [if_neg c1] at h
    by_cases c2 : w < 2 * y
    · rw [if_pos c2] at h
      subst h
      rw [Nat.add_mul, Nat.one_mul]
      refine ⟨by omega, by omega, fun z => by omega, fun z => by omega⟩
    · rw [if_neg c2] at h
      rcases Nat.mod_two_eq_zero_or_one D with q | q
      · rw [q] at h
        subst h
        rw [Nat.add_zero]
        refine ⟨by omega, by omega, fun z => q, fun z => by omega⟩
      · rw [q] at h
        subst h
        rw [Nat.add_mul, Nat.one_mul]
        refine ⟨by omega, by omega, fun z => by omega, fun z => by omega⟩
theorem sc_lo : ∀ (n s w : Nat), w - s < n → 0 < s → s < w → ∃ i, w ≤ s * 2 ^ i ∧ s * 2 ^ i < 2 * w
  | 0, _, _, h, _, _ => absurd h (Nat.not_lt_zero _)
  | n + 1, s, w, h, h0, h1 => by
    by_cases q : w ≤ 2 * s
    · exact ⟨1, by rw [Nat.pow_one]; omega, by rw [Nat.pow_one]; omega⟩
    · obtain ⟨i, a, b⟩ := sc_lo n (2 * s) w (by omega) (by omega) (by omega)
      have e : s * 2 ^ (i + 1) = 2 * s * 2 ^ i := by rw [Nat.pow_succ, Nat.mul_comm (2 ^ i) 2, ← Nat.mul_assoc, Nat.mul_comm s 2]
      exact ⟨i + 1, by rw [e]; exact a, by rw [e]; exact b⟩
theorem sc_hi : ∀ (n s w : Nat), s - w < n → 0 < w → w ≤ s → ∃ j, w * 2 ^ j ≤ s ∧ s < 2 * (w * 2 ^ j)
  | 0, _, _, h, _, _ => absurd h (Nat.not_lt_zero _)
  | n + 1, s, w, h, h0, h1 => by
    by_cases q : s < 2 * w
    · exact ⟨0, by rw [Nat.pow_zero]; omega, by rw [Nat.pow_zero]; omega⟩
    · obtain ⟨j, a, b⟩ := sc_hi n s (2 * w) (by omega) (by omega) (by omega)
      have e : w * 2 ^ (j + 1) = 2 * w * 2 ^ j := by rw [Nat.pow_succ, Nat.mul_comm (2 ^ j) 2, ← Nat.mul_assoc, Nat.mul_comm w 2]
      exact ⟨j + 1, by rw [e]; exact a, by rw [e]; exact b⟩
theorem pw_lt {a i m : Nat} (h1 : 1 ≤ a) (h : a * 2 ^ i < 2 ^ m) : i < m := by
  rcases Nat.lt_or_ge i m with q | q
  · exact q
  · have h2 : 2 ^ m ≤ 2 ^ i := Nat.pow_le_pow_right (by omega) q
    have h3 : 1 * 2 ^ i ≤ a * 2 ^ i := Nat.mul_le_mul_right _ h1
    omega
theorem sc_ex {s w : Nat} (s1 : 1 ≤ s) (s2 : s ≤ 1999800) (w1 : 1 ≤ w) (w2 : w ≤ 200) : ∃ i j, w * 2 ^ j ≤ s * 2 ^ i ∧ s * 2 ^ i < 2 * (w * 2 ^ j) ∧ i ≤ 8 ∧ j ≤ 20 := by
  rcases Nat.lt_or_ge s w with q | q
  · obtain ⟨i, a, b⟩ := sc_lo _ s w (Nat.lt_succ_self _) s1 q
    have := pw_lt (m := 9) s1 (show s * 2 ^ i < 2 ^ 9 by omega)
    exact ⟨i, 0, by rw [Nat.pow_zero, Nat.mul_one]; exact a, by rw [Nat.pow_zero, Nat.mul_one]; exact b, by omega, by omega⟩
  · obtain ⟨j, a, b⟩ := sc_hi _ s w (Nat.lt_succ_self _) w1 q
    have := pw_lt (m := 21) w1 (show w * 2 ^ j < 2 ^ 21 by omega)
    exact ⟨0, j, by rw [Nat.pow_zero, Nat.mul_one]; exact a, by rw [Nat.pow_zero, Nat.mul_one]; exact b, by omega, by omega⟩
/-- what the law asks of the bits: exponent, digits, and how far off -/
def FQ (s w bn sh c : Nat) : Prop := flI s w = nI bn ∧ bn < 2 ^ 31 ∧ bn / 8388608 = 150 - sh ∧ bn % 8388608 + 8388608 = c ∧ sh ≤ 40 ∧ nrm c ∧ 2 * (c * w) ≤ 2 * (s * 2 ^ sh) + w ∧ 2 * (s * 2 ^ sh) ≤ 2 * (c * w) + w ∧ (2 * (s * 2 ^ sh) = 2 * (c * w) + w → c % 2 = 0) ∧ (2 * (c * w) = 2 * (s * 2 ^ sh) + w → c % 2 = 0)
theorem fq_ex {s w : Nat} (s1 : 1 ≤ s) (s2 : s ≤ 1999800) (w1 : 1 ≤ w) (w2 : w ≤ 200) : ∃ bn sh c, FQ s w bn sh c := by
  obtain ⟨i, j, h1, h2, hi, hj⟩ := sc_ex s1 s2 w1 w2
  obtain ⟨x, hx⟩ : ∃ x, x + i = 127 + j := ⟨127 + j - i, by omega⟩
  obtain ⟨x1, x2, hM, hf⟩ := fl_fin s1 (by omega) w1 (by omega) rfl rfl h1 h2 hx
  have hb : 0 < w * 2 ^ j := Nat.mul_pos w1 (Nat.two_pow_pos j)
  have hM2 := (near_b hb h1 h2).2
  have hn : FP.Core.nearest (s * 2 ^ i * 8388608) (w * 2 ^ j) = FP.Core.nearest (s * 2 ^ (150 - x)) w := by
    have e : s * 2 ^ i * 8388608 = s * 2 ^ (150 - x) * 2 ^ j := by
      rw [show (8388608 : Nat) = 2 ^ 23 from by decide, Nat.mul_assoc, Nat.mul_assoc, ← Nat.pow_add, ← Nat.pow_add, show i + 23 = 150 - x + j by omega]
    rw [e, near_sc (Nat.two_pow_pos j)]
  generalize FP.Core.nearest (s * 2 ^ i * 8388608) (w * 2 ^ j) = M at *
  obtain ⟨n1, n2, n3, n4⟩ := near_sp w1 hn.symm
  rcases Nat.lt_or_ge M 16777216 with q | q
  · exact ⟨x * 8388608 + (M - 8388608), 150 - x, M, hf.symm, by omega, by omega, by omega, by omega, ⟨hM, q⟩, n1, n2, n3, n4⟩
  · obtain rfl : M = 16777216 := by omega
    have e : s * 2 ^ (150 - x) = 2 * (s * 2 ^ (150 - (x + 1))) := by
      rw [show 150 - x = (150 - (x + 1)) + 1 by omega, Nat.pow_succ, Nat.mul_comm (2 ^ _) 2, Nat.mul_left_comm]
    rw [e] at n1 n2
    refine ⟨(x + 1) * 8388608, 150 - (x + 1), 8388608, ?_, by omega, by omega, by omega, by omega, ⟨by omega, by omega⟩, by omega, by omega, fun _ => rfl, fun _ => rfl⟩
    rw [← hf]
    exact congrArg nI (by omega)
theorem ush_23 {b : Nat} (h : b < 2 ^ 31) : ((nI b).toUInt32 >>> ((nI 23).toUInt32 &&& Int32.toUInt32 31)).toInt32 = nI (b / 8388608) := by
  apply Int32.toBitVec_inj.mp
  apply BitVec.eq_of_toNat_eq
  rw [show ((nI 23).toUInt32 &&& Int32.toUInt32 31) = 23 from by decide +kernel]
  show ((nI b).toUInt32 >>> 23).toNat = (BitVec.ofNat 32 (b / 8388608)).toNat
  rw [UInt32.toNat_shiftRight]
  show (BitVec.ofNat 32 b).toNat >>> 23 = _
  rw [BitVec.toNat_ofNat, BitVec.toNat_ofNat, Nat.mod_eq_of_lt (show b < 2 ^ 32 by omega), Nat.mod_eq_of_lt (show b / 8388608 < 2 ^ 32 by omega), Nat.shiftRight_eq_div_pow]
theorem dig_c {b c : Nat} (h : b < 2 ^ 31) (hc : b % 8388608 + 8388608 = c) : nI b &&& 8388607 ||| 8388608 = nI c := by
  apply Int32.toBitVec_inj.mp
  apply BitVec.eq_of_toNat_eq
  rw [Int32.toBitVec_or, BitVec.toNat_or, Int32.toBitVec_and, BitVec.toNat_and]
  have e1 : (8388607 : Int32).toBitVec.toNat = 2 ^ 23 - 1 := by decide +kernel
  have e2 : (8388608 : Int32).toBitVec.toNat = 2 ^ 23 := by decide +kernel
  have e3 : (nI b).toBitVec.toNat = b := by
    show (BitVec.ofNat 32 b).toNat = b
    rw [BitVec.toNat_ofNat, Nat.mod_eq_of_lt (by omega)]
  have e4 : (nI c).toBitVec.toNat = c := by
    show (BitVec.ofNat 32 c).toNat = c
    rw [BitVec.toNat_ofNat, Nat.mod_eq_of_lt (by omega)]
  rw [e1, e2, e3, e4, Nat.and_two_pow_sub_one_eq_mod, show (2 : Nat) ^ 23 = 8388608 from by decide]
  have h2 : b % 8388608 < 2 ^ 23 := by have := Nat.mod_lt b (show 0 < 8388608 by omega); exact this
  have h3 := Nat.two_pow_add_eq_or_of_lt h2 1
  rw [Nat.mul_one, show (2 : Nat) ^ 23 = 8388608 from by decide] at h3
  rw [Nat.or_comm, ← h3, ← hc, Nat.add_comm]
theorem smod_64 : ∀ k, k < 64 → (BitVec.ofNat 64 k).smod 64 = BitVec.ofNat 64 k := by decide +kernel
theorem shl_n {a k : Nat} (hk : k < 64) : nJ a <<< ((nI k).toInt64 &&& 63) = nJ (a * 2 ^ k) := by
  rw [nJ_i2l (by omega)]
  apply Int64.toBitVec_inj.mp
  apply BitVec.eq_of_toNat_eq
  have e1 : (nJ k &&& 63) = nJ k := by
    apply Int64.toBitVec_inj.mp
    apply BitVec.eq_of_toNat_eq
    rw [Int64.toBitVec_and, BitVec.toNat_and]
    have e2 : (63 : Int64).toBitVec.toNat = 2 ^ 6 - 1 := by decide +kernel
    have e3 : (nJ k).toBitVec.toNat = k := by
      show (BitVec.ofNat 64 k).toNat = k
      rw [BitVec.toNat_ofNat, Nat.mod_eq_of_lt (by omega)]
    rw [e2, e3, Nat.and_two_pow_sub_one_eq_mod, Nat.mod_eq_of_lt (by omega)]
  rw [e1]
  have e5 : (nJ a <<< nJ k).toBitVec = (nJ a).toBitVec <<< ((nJ k).toBitVec.smod 64) := rfl
  have e6 : (nJ k).toBitVec.smod 64 = (nJ k).toBitVec := by
    exact smod_64 k hk
  rw [e5, e6, BitVec.shiftLeft_eq', BitVec.toNat_shiftLeft]
  have e3 : (nJ k).toBitVec.toNat = k := by
    show (BitVec.ofNat 64 k).toNat = k
    rw [BitVec.toNat_ofNat, Nat.mod_eq_of_lt (by omega)]
  rw [e3]
  show (BitVec.ofNat 64 a).toNat <<< k % 2 ^ 64 = (BitVec.ofNat 64 (a * 2 ^ k)).toNat
  rw [BitVec.toNat_ofNat, BitVec.toNat_ofNat, Nat.shiftLeft_eq, Nat.mod_mul_mod]
theorem land_1 {c : Nat} : nJ c &&& nJ 1 = nJ (c % 2) := by
  apply Int64.toBitVec_inj.mp
  apply BitVec.eq_of_toNat_eq
  rw [Int64.toBitVec_and, BitVec.toNat_and]
  show (BitVec.ofNat 64 c).toNat &&& (BitVec.ofNat 64 1).toNat = (BitVec.ofNat 64 (c % 2)).toNat
  rw [BitVec.toNat_ofNat, BitVec.toNat_ofNat, BitVec.toNat_ofNat, show 1 % 2 ^ 64 = 2 ^ 1 - 1 from by decide, Nat.and_two_pow_sub_one_eq_mod]
  omega
theorem off_i {Z Y w : Nat} (hZ : Z < 2 ^ 60) (hY : Y < 2 ^ 60) : (nJ Z - nJ Y).toInt = (Z : Int) - Y := by
  rw [Int64.toInt_sub, nJ_toInt (by omega), nJ_toInt (by omega)]
  exact Int.bmod_eq_of_le (by omega) (by omega)
theorem off_2 {o : Int64} {v : Int} (h : o.toInt = v) (h1 : -1000 ≤ v) (h2 : v ≤ 1000) : (nJ 2 * o).toInt = 2 * v ∧ ((-2) * o).toInt = -2 * v := by
  have e2 : (nJ 2).toInt = 2 := by decide +kernel
  have e3 : (-2 : Int64).toInt = -2 := by decide +kernel
  rw [Int64.toInt_mul, Int64.toInt_mul, e2, e3, h]
  exact ⟨Int.bmod_eq_of_le (by omega) (by omega), Int.bmod_eq_of_le (by omega) (by omega)⟩
/-- the law's compare of how far off the bits are -/
theorem fq_cmp {s w bn sh c : Nat} {o : Int64} (h : FQ s w bn sh c) (s2 : s ≤ 1999800) (w1 : 1 ≤ w) (w2 : w ≤ 200) (ho : o = nJ (s * 2 ^ sh) - nJ (c * w)) (h1 : nJ w ≤ nJ 2 * o ∨ nJ w ≤ (-2) * o) : c % 2 = 0 ∧ (nJ 2 * o = nJ w ∨ (-2) * o = nJ w) := by
  obtain ⟨a1, a2, a3, a4, a5, ⟨a6, a7⟩, b1, b2, b3, b4⟩ := h
  have hcw : c * w ≤ 16777216 * 200 := Nat.mul_le_mul (by omega) w2
  have hof := off_i (w := w) (Z := s * 2 ^ sh) (Y := c * w) (by omega) (by omega)
  rw [← ho] at hof
  obtain ⟨m1, m2⟩ := off_2 hof (by omega) (by omega)
  have hw : (nJ w).toInt = (w : Int) := nJ_toInt (by omega)
  generalize s * 2 ^ sh = Z at *
  generalize c * w = Y at *
  rcases h1 with z | z
  · have z2 := Int64.le_iff_toInt_le.mp z
    rw [m1, hw] at z2
    exact ⟨b3 (by omega), Or.inl (Int64.toInt_inj.mp (by rw [m1, hw]; omega))⟩
  · have z2 := Int64.le_iff_toInt_le.mp z
    rw [m2, hw] at z2
    exact ⟨b4 (by omega), Or.inr (Int64.toInt_inj.mp (by rw [m2, hw]; omega))⟩

/-! the bits of a quotient, digit by digit -/
theorem near_sc {x d m : Nat} (hm : 0 < m) : FP.Core.nearest (x * m) (d * m) = FP.Core.nearest x d := by
  unfold FP.Core.nearest
  rw [Nat.mul_mod_mul_right, Nat.mul_div_mul_right _ _ hm, ← Nat.mul_assoc]
  have e1 : 2 * (x % d) * m < d * m ↔ 2 * (x % d) < d := ⟨fun z => Nat.lt_of_mul_lt_mul_right z, fun z => Nat.mul_lt_mul_of_pos_right z hm⟩
  have e2 : d * m < 2 * (x % d) * m ↔ d < 2 * (x % d) := ⟨fun z => Nat.lt_of_mul_lt_mul_right z, fun z => Nat.mul_lt_mul_of_pos_right z hm⟩
  by_cases c1 : 2 * (x % d) < d
  · rw [if_pos c1, if_pos (e1.mpr c1)]
  · rw [if_neg c1, if_neg (fun z => c1 (e1.mp z))]
    by_cases c2 : d < 2 * (x % d)
    · rw [if_pos c2, if_pos (e2.mpr c2)]
    · rw [if_neg c2, if_neg (fun z => c2 (e2.mp z))]
/-- the digits that the model has after its twenty-four steps, and its rest, give the nearest -/
theorem near_24 {Z b D R : Nat} (h : 2 * Z = D * (2 * b) + R) (hR : R < 2 * b) : (b < R → FP.Core.nearest Z b = D + 1) ∧ (R < b → FP.Core.nearest Z b = D) ∧ (R = b → FP.Core.nearest Z b = D + D % 2) := by
  have e : D * (2 * b) = 2 * (b * D) := by rw [Nat.mul_left_comm, Nat.mul_comm D b]
  rw [e] at h
  obtain ⟨y, hy⟩ : ∃ y, R = 2 * y := ⟨R / 2, by omega⟩
  have e3 : Z = b * D + y := by omega
  have hb : 0 < b := by omega
  have q1 : (b * D + y) / b = D := by rw [Nat.mul_add_div hb, Nat.div_eq_of_lt (by omega)]; rfl
  have q2 : (b * D + y) % b = y := by rw [Nat.mul_add_mod, Nat.mod_eq_of_lt (by omega)]
  unfold FP.Core.nearest
  rw [e3, q1, q2]
  refine ⟨fun z => ?_, fun z => ?_, fun z => ?_⟩
  · rw [if_neg (by omega), if_pos (by omega)]
  · rw [if_pos (by omega)]
  · rw [if_neg (by omega), if_neg (by omega)]
/-- one power of two brings a quotient between 1 and 2 -/
theorem two_u {a b c d m n : Nat} (h1 : b ≤ a) (h2 : a < 2 * b) (h3 : d ≤ c) (h4 : c < 2 * d) (h : a * d * 2 ^ m = c * b * 2 ^ n) : m = n := by
  have hb : 0 < b := by omega
  have hd : 0 < d := by omega
  have k1 : b * d ≤ a * d := Nat.mul_le_mul_right _ h1
  have k2 : a * d < 2 * (b * d) := by rw [← Nat.mul_assoc]; exact Nat.mul_lt_mul_of_pos_right h2 hd
  have k3 : b * d ≤ c * b := by rw [Nat.mul_comm b d]; exact Nat.mul_le_mul_right _ h3
  have k4 : c * b < 2 * (b * d) := by rw [Nat.mul_comm b d, ← Nat.mul_assoc]; exact Nat.mul_lt_mul_of_pos_right h4 hb
  have hp : 0 < b * d := Nat.mul_pos hb hd
  generalize a * d = A at *
  generalize c * b = C at *
  generalize b * d = P at *
  rcases Nat.lt_trichotomy m n with q | q | q
  · obtain ⟨z, rfl⟩ : ∃ z, n = m + 1 + z := ⟨n - m - 1, by omega⟩
    rw [show m + 1 + z = m + (1 + z) by omega, Nat.pow_add, Nat.mul_comm (2 ^ m), ← Nat.mul_assoc] at h
    have h5 : A = C * 2 ^ (1 + z) := Nat.eq_of_mul_eq_mul_right (Nat.two_pow_pos m) h
    have h6 : C * 2 ≤ C * 2 ^ (1 + z) := Nat.mul_le_mul_left _ (Nat.pow_le_pow_right (n := 2) (by omega) (show 1 ≤ 1 + z by omega))
    omega
  · exact q
  · obtain ⟨z, rfl⟩ : ∃ z, m = n + 1 + z := ⟨m - n - 1, by omega⟩
    rw [show n + 1 + z = n + (1 + z) by omega, Nat.pow_add, Nat.mul_comm (2 ^ n), ← Nat.mul_assoc] at h
    have h5 : A * 2 ^ (1 + z) = C := Nat.eq_of_mul_eq_mul_right (Nat.two_pow_pos n) h
    have h6 : A * 2 ≤ A * 2 ^ (1 + z) := Nat.mul_le_mul_left _ (Nat.pow_le_pow_right (n := 2) (by omega) (show 1 ≤ 1 + z by omega))
    omega
theorem fl_fin {s w r b i j x : Nat} (s1 : 1 ≤ s) (s2 : s < 16777216) (w1 : 1 ≤ w) (w2 : w < 16777216) (hr : r = s * 2 ^ i) (hb : b = w * 2 ^ j) (h1 : b ≤ r) (h2 : r < 2 * b) (hx : x + i = 127 + j) :
    1 ≤ x ∧ x ≤ 254 ∧ 8388608 ≤ FP.Core.nearest (r * 8388608) b ∧ nI (x * 8388608 + (FP.Core.nearest (r * 8388608) b - 8388608)) = flI s w := by
  have a1 := nrm_sh s1 s2
  have a2 := nrm_sh w1 w2
  have hM := dvN_b a1.1 a2.1
  have hd := dlt_b a1.1 a2.1
  have fx : fbN s w = fb (dvN (s * 2 ^ shN s) (w * 2 ^ shN w)) (127 + (150 - shN s) - (150 - shN w) - dlt (s * 2 ^ shN s) (w * 2 ^ shN w)) := rfl
  have dx : dvN (s * 2 ^ shN s) (w * 2 ^ shN w) = FP.Core.nearest (s * 2 ^ shN s * 2 ^ dlt (s * 2 ^ shN s) (w * 2 ^ shN w) * 8388608) (w * 2 ^ shN w) := rfl
  generalize dlt (s * 2 ^ shN s) (w * 2 ^ shN w) = t at *
  have hu := two_u (m := shN s + t + j) (n := i + shN w) h1 h2 hd.1 hd.2.1 (by
    rw [hr, hb, Nat.pow_add, Nat.pow_add, Nat.pow_add]
    simp only [Nat.mul_assoc, Nat.mul_comm, Nat.mul_left_comm])
  have hx2 : x = 127 + (150 - shN s) - (150 - shN w) - t := by omega
  have hn : FP.Core.nearest (r * 8388608) b = dvN (s * 2 ^ shN s) (w * 2 ^ shN w) := by
    rw [dx, ← near_sc (x := r * 8388608) (d := b) (m := w * 2 ^ shN w) (Nat.mul_pos (by omega) (Nat.two_pow_pos _)), ← near_sc (x := s * 2 ^ shN s * 2 ^ t * 8388608) (d := w * 2 ^ shN w) (m := b) (by omega), Nat.mul_comm (w * 2 ^ shN w) b]
    have e : r * 8388608 * (w * 2 ^ shN w) = s * 2 ^ shN s * 2 ^ t * 8388608 * b := by
      have e9 : r * (w * 2 ^ shN w) = s * 2 ^ shN s * 2 ^ t * b := by
        have z : 2 ^ (shN s + t + j) = 2 ^ (i + shN w) := by rw [hu]
        rw [Nat.pow_add, Nat.pow_add, Nat.pow_add] at z
        have z2 : s * w * (2 ^ shN s * 2 ^ t * 2 ^ j) = s * w * (2 ^ i * 2 ^ shN w) := by rw [z]
        rw [hr, hb]
        simp only [Nat.mul_assoc, Nat.mul_comm, Nat.mul_left_comm] at z2 ⊢
        exact z2.symm
      rw [Nat.mul_right_comm, e9, Nat.mul_right_comm]
    rw [e]
  have hM2 : 8388608 ≤ FP.Core.nearest (r * 8388608) b := by rw [hn]; exact hM.1
  refine ⟨by omega, by omega, hM2, ?_⟩
  rw [flI, if_neg (by omega), fx, hn, ← hx2]
  rfl
theorem sh_23 {E : Nat} (hE : E < 256) : nI E <<< (nI 23 &&& 31) = nI (E * 8388608) := by
  have h := or_sh (E := E) (f := 0) hE (by omega)
  rw [Nat.add_zero] at h
  rw [← h]
  apply Int32.toBitVec_inj.mp
  apply BitVec.eq_of_toNat_eq
  rw [Int32.toBitVec_or, BitVec.toNat_or]
  show _ = _ ||| (0 : Nat)
  rw [Nat.or_zero]
theorem p_24 (r : Nat) : r * 2 ^ 24 = 2 * (r * 8388608) := by
  have e : (2 : Nat) ^ 24 = 2 * 8388608 := by decide +kernel
  rw [e]
  exact Nat.mul_left_comm _ _ _
theorem pw_24 {a i : Nat} (h1 : 1 ≤ a) (h : a * 2 ^ i < 16777216) : i < 24 := by
  rcases Nat.lt_or_ge i 24 with q | q
  · exact q
  · have h2 : 2 ^ 24 ≤ 2 ^ i := Nat.pow_le_pow_right (by omega) q
    have h3 : 1 * 2 ^ i ≤ a * 2 ^ i := Nat.mul_le_mul_right _ h1
    omega

/-! floats: a positive number of ordinary size, its 24 digits and its exponent -/
section FS
def fb (c E : Nat) : Nat := E * 8388608 + (c - 8388608)
def nrm (c : Nat) : Prop := 8388608 ≤ c ∧ c < 16777216
theorem fb_lt {c E : Nat} (hc : nrm c) (hE : E ≤ 254) : fb c E < 2139095040 := by unfold fb nrm at *; omega
theorem b32_tails : FP.Core.b32.tails = 8388608 := by decide
theorem b32_exps : FP.Core.b32.exps = 256 := by decide
theorem b32_qmin : FP.Core.b32.qmin = -149 := by decide
theorem b32_qmax : FP.Core.b32.qmax = 104 := by decide
theorem dec_fb {c E : Nat} (hc : nrm c) (h1 : 1 ≤ E) (hE : E ≤ 254) : FP.Core.decode FP.Core.b32 (fb c E) = .fin false c ((E : Int) - 150) := by
  have e1 : fb c E / 8388608 = E := by unfold fb nrm at *; omega
  have e2 : fb c E % 8388608 = c - 8388608 := by unfold fb nrm at *; omega
  have hE' : FP.Core.fieldE FP.Core.b32 (fb c E) = E := by rw [FP.Core.fieldE, b32_tails, b32_exps, e1]; omega
  have hT : FP.Core.fieldT FP.Core.b32 (fb c E) = c - 8388608 := by rw [FP.Core.fieldT, b32_tails, e2]
  have hS : FP.Core.fieldS FP.Core.b32 (fb c E) = false := by
    rw [FP.Core.fieldS, b32_tails, b32_exps, e1, show E / 256 = 0 by omega]
    rfl
  rw [FP.Core.decode, hE', hT, hS, b32_exps, if_neg (by omega), if_neg (by omega), b32_tails, b32_qmin]
  rw [show 8388608 + (c - 8388608) = c by have := hc.1; omega, show (-149 : Int) + ((E : Int) - 1) = (E : Int) - 150 by omega]
theorem enc_fb {c E : Nat} (hc : nrm c) (h1 : 1 ≤ E) : FP.Core.encode FP.Core.b32 (.fin false c ((E : Int) - 150)) = fb c E := by
  have h := hc.1
  rw [FP.Core.encode, b32_tails, if_neg (by omega), FP.Core.assemble, b32_qmin, b32_exps, b32_tails]
  rw [show (((E : Int) - 150) - (-149)).toNat + 1 = E by omega, show false.toNat = 0 from rfl, Nat.zero_mul, Nat.zero_add]
  rfl
theorem log2_of {n k : Nat} (h1 : 2 ^ k ≤ n) (h2 : n < 2 ^ (k + 1)) : n.log2 = k := by
  have h0 : n ≠ 0 := fun z => by rw [z] at h1; exact absurd (Nat.two_pow_pos k) (by omega)
  have a := (Nat.le_log2 h0).mpr h1
  have b := (Nat.log2_lt h0).mpr h2
  omega
theorem leading_1 {n k : Nat} (h1 : 2 ^ k ≤ n) (h2 : n < 2 ^ (k + 1)) : FP.Core.leading n 1 = (k : Int) := by
  have e : (1 : Nat).log2 = 0 := by decide
  rw [FP.Core.leading, log2_of h1 h2, e]
  show (if 1 * 2 ^ ((k : Int) - 0).toNat ≤ n * 2 ^ (-((k : Int) - 0)).toNat then (k : Int) - 0 else (k : Int) - 0 - 1) = k
  rw [show ((k : Int) - 0).toNat = k by omega, show (-((k : Int) - 0)).toNat = 0 by omega, if_pos (by rw [Nat.one_mul, Nat.pow_zero, Nat.mul_one]; exact h1)]
  omega
theorem near_mul {c d : Nat} (hd : 0 < d) : FP.Core.nearest (c * d) d = c := by
  rw [FP.Core.nearest, Nat.mul_mod_left, if_pos (by omega), Nat.mul_div_cancel _ hd]
theorem settle_n {c : Nat} {q : Int} (hc : nrm c) (hq : q ≤ 104) : FP.Core.settle FP.Core.b32 false c q = .fin false c q := by
  have h : (FP.Core.b32.p) = 24 := rfl
  rw [FP.Core.settle, h, if_pos (by have := hc.2; omega), FP.Core.bound, b32_qmax, if_pos hq]
theorem settle_c {q : Int} (hq : q + 1 ≤ 104) : FP.Core.settle FP.Core.b32 false 16777216 q = .fin false 8388608 (q + 1) := by
  have h : (FP.Core.b32.p) = 24 := rfl
  rw [FP.Core.settle, h, if_neg (by omega), b32_tails, FP.Core.bound, b32_qmax, if_pos hq]
/-- a whole number with ordinary digits is kept -/
theorem rnd_up {c t : Nat} {q : Int} (hc : nrm c) (h1 : -149 ≤ q + t) (h2 : q + t ≤ 104) : FP.Core.roundRatio FP.Core.b32 false (c * 2 ^ t) 1 q = .fin false c (q + t) := by
  have hp : 0 < 2 ^ t := Nat.two_pow_pos t
  have hb1 : 2 ^ (23 + t) ≤ c * 2 ^ t := by rw [Nat.pow_add]; exact Nat.mul_le_mul_right _ hc.1
  have hb2 : c * 2 ^ t < 2 ^ (23 + t + 1) := by
    rw [show 23 + t + 1 = 24 + t by omega, Nat.pow_add]
    exact Nat.mul_lt_mul_of_pos_right hc.2 hp
  have hn : c * 2 ^ t ≠ 0 := by have := Nat.mul_pos (show 0 < c by have := hc.1; omega) hp; omega
  have hq : FP.Core.quantum FP.Core.b32 (c * 2 ^ t) 1 q = q + t := by
    have h : (FP.Core.b32.p) = 24 := rfl
    rw [FP.Core.quantum, leading_1 hb1 hb2, b32_qmin, h]
    omega
  rw [FP.Core.roundRatio, if_neg hn, hq, FP.Core.roundAt, FP.Core.unitsNum, FP.Core.unitsDen, show (q - (q + t)).toNat = 0 by omega, show ((q + (t : Int)) - q).toNat = t by omega, Nat.pow_zero, Nat.mul_one, Nat.one_mul, near_mul hp, settle_n hc h2]
theorem rnd_dn {n a : Nat} (hc : nrm (n * 2 ^ a)) (ha : a ≤ 23) : FP.Core.roundRatio FP.Core.b32 false n 1 0 = .fin false (n * 2 ^ a) (-(a : Int)) := by
  have hp : 0 < 2 ^ a := Nat.two_pow_pos a
  have e23 : 2 ^ 23 = 2 ^ (23 - a) * 2 ^ a := by rw [← Nat.pow_add, show 23 - a + a = 23 by omega]
  have e24 : 2 ^ 24 = 2 ^ (23 - a + 1) * 2 ^ a := by rw [← Nat.pow_add, show 23 - a + 1 + a = 24 by omega]
  have hb1 : 2 ^ (23 - a) ≤ n := by
    have h := hc.1
    rw [show 8388608 = 2 ^ 23 from rfl, e23] at h
    exact Nat.le_of_mul_le_mul_right h hp
  have hb2 : n < 2 ^ (23 - a + 1) := by
    have h := hc.2
    rw [show 16777216 = 2 ^ 24 from rfl, e24] at h
    exact Nat.lt_of_mul_lt_mul_right h
  have hn : n ≠ 0 := fun z => by rw [z, Nat.zero_mul] at hc; exact absurd hc.1 (by omega)
  have hq : FP.Core.quantum FP.Core.b32 n 1 0 = -(a : Int) := by
    have h : (FP.Core.b32.p) = 24 := rfl
    rw [FP.Core.quantum, leading_1 hb1 hb2, b32_qmin, h]
    omega
  rw [FP.Core.roundRatio, if_neg hn, hq, FP.Core.roundAt, FP.Core.unitsNum, FP.Core.unitsDen, show (0 - (-(a : Int))).toNat = a by omega, show (-(a : Int) - 0).toNat = 0 by omega, Nat.pow_zero, Nat.mul_one]
  have := near_mul (c := n * 2 ^ a) (d := 1) (by omega)
  rw [Nat.mul_one] at this
  rw [this, settle_n hc (by omega)]
abbrev F32 (c E : Nat) : UInt32 := UInt32.ofNat (fb c E)
theorem F32_nat {c E : Nat} (hc : nrm c) (hE : E ≤ 254) : (F32 c E).toNat = fb c E := by
  have := fb_lt hc hE
  exact UInt32.toNat_ofNat_of_lt (by show _ < 4294967296; omega)
theorem F32_n {c E : Nat} (hc : nrm c) (hE : E ≤ 254) : vf_n32 (F32 c E) := by
  have h := fb_lt hc hE
  have e := F32_nat hc hE
  unfold vf_n32
  rw [UInt32.le_iff_toNat_le, UInt32.toNat_and, e, show (0x7fffffff : UInt32).toNat = 2 ^ 31 - 1 from rfl, Nat.and_two_pow_sub_one_eq_mod, show (0x7f800000 : UInt32).toNat = 2139095040 from rfl]
  omega
theorem i2f_n {n a : Nat} (hc : nrm (n * 2 ^ a)) (ha : a ≤ 23) (hn : n < 2 ^ 31) : FP.i2f (nI n) = F32 (n * 2 ^ a) (150 - a) := by
  show UInt32.ofNat (FP.Core.fromInt FP.Core.b32 (nI n).toInt) = _
  rw [nI_toInt hn, FP.Core.fromInt, FP.Core.ofInt, FP.Core.round, show decide ((n : Int) < 0) = false from decide_eq_false (by omega), show (n : Int).natAbs = n from rfl, rnd_dn hc ha]
  have := enc_fb (E := 150 - a) hc (by omega)
  rw [show ((150 - a : Nat) : Int) - 150 = -(a : Int) by omega] at this
  rw [this]
theorem mul_fb {c E k : Nat} (hc : nrm c) (h1 : 1 ≤ E) (hE : E ≤ 254) (k1 : 1 ≤ k) (k2 : k ≤ 254) (g1 : 128 ≤ E + k) (g2 : E + k ≤ 381) : FP.fmul (F32 c E) (F32 8388608 k) = F32 c (E + k - 127) := by
  have hb : nrm 8388608 := ⟨by omega, by omega⟩
  show UInt32.ofNat (FP.Core.mul FP.Core.b32 _ _) = _
  rw [F32_nat hc hE, F32_nat hb k2, FP.Core.mul, dec_fb hc h1 hE, dec_fb hb k1 k2, FP.Core.exactProduct, FP.Core.round]
  have := rnd_up (c := c) (t := 23) (q := ((E : Int) - 150) + ((k : Int) - 150)) hc (by omega) (by omega)
  rw [show c * 8388608 = c * 2 ^ 23 from rfl, show (false != false) = false from rfl, this]
  have h := enc_fb (E := E + k - 127) hc (by omega)
  rw [show ((E + k - 127 : Nat) : Int) - 150 = ((E : Int) - 150) + ((k : Int) - 150) + (23 : Nat) by omega] at h
  rw [h]
end FS

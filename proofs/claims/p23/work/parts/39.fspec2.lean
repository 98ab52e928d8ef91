/-! floats: quotients, compares, whole numbers -/
theorem log2_nrm {c : Nat} (hc : nrm c) : c.log2 = 23 := log2_of hc.1 hc.2
theorem leading_cd {c d : Nat} (hc : nrm c) (hd : nrm d) : FP.Core.leading c d = if d ≤ c then 0 else -1 := by
  rw [FP.Core.leading, log2_nrm hc, log2_nrm hd]
  show (if d * 2 ^ (((23 : Nat) : Int) - ((23 : Nat) : Int)).toNat ≤ c * 2 ^ (-(((23 : Nat) : Int) - ((23 : Nat) : Int))).toNat then ((23 : Nat) : Int) - ((23 : Nat) : Int) else ((23 : Nat) : Int) - ((23 : Nat) : Int) - 1) = _
  rw [show (((23 : Nat) : Int) - ((23 : Nat) : Int)) = 0 by omega, show (0 : Int).toNat = 0 from rfl, show (-(0 : Int)).toNat = 0 from rfl, Nat.pow_zero, Nat.mul_one, Nat.mul_one]
  rfl
def dlt (c d : Nat) : Nat := if d ≤ c then 0 else 1
def dvN (c d : Nat) : Nat := FP.Core.nearest (c * 2 ^ dlt c d * 8388608) d
theorem near_le {x d : Nat} : x / d ≤ FP.Core.nearest x d ∧ FP.Core.nearest x d ≤ x / d + 1 := by
  unfold FP.Core.nearest
  split
  · omega
  · split <;> omega
theorem near_b {x d : Nat} (hd : 0 < d) (h1 : d ≤ x) (h2 : x < 2 * d) : 8388608 ≤ FP.Core.nearest (x * 8388608) d ∧ FP.Core.nearest (x * 8388608) d ≤ 16777216 := by
  have h := near_le (x := x * 8388608) (d := d)
  have a : 8388608 ≤ x * 8388608 / d := (Nat.le_div_iff_mul_le hd).mpr (by rw [Nat.mul_comm]; exact Nat.mul_le_mul_right _ h1)
  have b : x * 8388608 / d < 16777216 := (Nat.div_lt_iff_lt_mul hd).mpr (by omega)
  omega
theorem dlt_b {c d : Nat} (hc : nrm c) (hd : nrm d) : d ≤ c * 2 ^ dlt c d ∧ c * 2 ^ dlt c d < 2 * d ∧ dlt c d ≤ 1 := by
  unfold dlt
  unfold nrm at hc hd
  split
  · rw [Nat.pow_zero, Nat.mul_one]; omega
  · rw [Nat.pow_one]; omega
theorem dvN_b {c d : Nat} (hc : nrm c) (hd : nrm d) : 8388608 ≤ dvN c d ∧ dvN c d ≤ 16777216 := by
  have h := dlt_b hc hd
  exact near_b (by have := hd.1; omega) h.1 h.2.1
/-- the bits of a number whose digits may have been carried -/
theorem fb_carry {M E : Nat} (h1 : 8388608 ≤ M) (h2 : M ≤ 16777216) : ∃ c E', nrm c ∧ fb M E = fb c E' ∧ E ≤ E' ∧ E' ≤ E + 1 := by
  rcases Nat.lt_or_ge M 16777216 with q | q
  · exact ⟨M, E, ⟨h1, q⟩, rfl, Nat.le_refl _, Nat.le_succ _⟩
  · exact ⟨8388608, E + 1, ⟨by omega, by omega⟩, by unfold fb; omega, Nat.le_succ _, Nat.le_refl _⟩
theorem enc_settle {M E : Nat} (h1 : 8388608 ≤ M) (h2 : M ≤ 16777216) (e1 : 1 ≤ E) (e2 : E ≤ 253) : FP.Core.encode FP.Core.b32 (FP.Core.settle FP.Core.b32 false M ((E : Int) - 150)) = fb M E := by
  rcases Nat.lt_or_ge M 16777216 with q | q
  · have hM : nrm M := ⟨h1, q⟩
    rw [settle_n hM (by omega)]
    exact enc_fb hM e1
  · obtain rfl : M = 16777216 := by omega
    rw [settle_c (by omega)]
    have := enc_fb (c := 8388608) (E := E + 1) ⟨by omega, by omega⟩ (by omega)
    rw [show ((E + 1 : Nat) : Int) - 150 = (E : Int) - 150 + 1 by omega] at this
    rw [this]
    unfold fb; omega
theorem div_fb {c d E1 E2 : Nat} (hc : nrm c) (hd : nrm d) (h1 : 1 ≤ E1) (h2 : E1 ≤ 254) (k1 : 1 ≤ E2) (k2 : E2 ≤ 254) (g1 : E2 + 2 ≤ E1 + 127) (g2 : E1 ≤ E2 + 126) : FP.fdiv (F32 c E1) (F32 d E2) = UInt32.ofNat (fb (dvN c d) (127 + E1 - E2 - dlt c d)) := by
  have hb := dlt_b hc hd
  have hM := dvN_b hc hd
  show UInt32.ofNat (FP.Core.div FP.Core.b32 _ _) = _
  rw [F32_nat hc h2, F32_nat hd k2, FP.Core.div, dec_fb hc h1 h2, dec_fb hd k1 k2, FP.Core.quotient, if_neg (by have := hd.1; omega), FP.Core.roundRatio, if_neg (by have := hc.1; omega)]
  have hl : FP.Core.leading c d = -(dlt c d : Int) := by
    rw [leading_cd hc hd]
    unfold dlt
    split <;> rfl
  have h24 : (FP.Core.b32.p) = 24 := rfl
  have hq : FP.Core.quantum FP.Core.b32 c d (((E1 : Int) - 150) - ((E2 : Int) - 150)) = ((127 + E1 - E2 - dlt c d : Nat) : Int) - 150 := by
    rw [FP.Core.quantum, hl, b32_qmin, h24]
    omega
  rw [hq, FP.Core.roundAt, FP.Core.unitsNum, FP.Core.unitsDen, show (((E1 : Int) - 150) - ((E2 : Int) - 150) - (((127 + E1 - E2 - dlt c d : Nat) : Int) - 150)).toNat = dlt c d + 23 by omega, show ((((127 + E1 - E2 - dlt c d : Nat) : Int) - 150) - (((E1 : Int) - 150) - ((E2 : Int) - 150))).toNat = 0 by omega, Nat.pow_zero, Nat.mul_one, Nat.pow_add, ← Nat.mul_assoc]
  show UInt32.ofNat (FP.Core.encode FP.Core.b32 (FP.Core.settle FP.Core.b32 false (dvN c d) _)) = _
  rw [enc_settle hM.1 hM.2 (by omega) (by omega)]
theorem div_0 {d E2 : Nat} (hd : nrm d) (k1 : 1 ≤ E2) (k2 : E2 ≤ 254) : FP.fdiv (FP.i2f (nI 0)) (F32 d E2) = FP.fconst0 := by
  show UInt32.ofNat (FP.Core.div FP.Core.b32 _ _) = _
  rw [F32_nat hd k2, FP.Core.div, dec_fb hd k1 k2, show (FP.i2f (nI 0)).toNat = 0 from by decide +kernel, show FP.Core.decode FP.Core.b32 0 = .fin false 0 (-149) from by decide +kernel, FP.Core.quotient, if_neg (by have := hd.1; omega), FP.Core.roundRatio, if_pos rfl]
  decide +kernel
theorem cmpI_lt {a b : Int} (h : a < b) : compare a b = .lt := by
  show (if a < b then Ordering.lt else if a = b then .eq else .gt) = _
  rw [if_pos h]
theorem cmpI_gt {a b : Int} (h : b < a) : compare a b = .gt := by
  show (if a < b then Ordering.lt else if a = b then .eq else .gt) = _
  rw [if_neg (by omega), if_neg (by omega)]
theorem cmpI_eq {a : Int} : compare a a = .eq := by
  show (if a < a then Ordering.lt else if a = a then .eq else .gt) = _
  rw [if_neg (by omega), if_pos rfl]
theorem fcmp_ord {c d E1 E2 : Nat} (hc : nrm c) (hd : nrm d) (h1 : 1 ≤ E1) (h2 : E1 ≤ 254) (k1 : 1 ≤ E2) (k2 : E2 ≤ 254) : FP.fcmp (F32 c E1) (F32 d E2) = some (compare ((c * 2 ^ (E1 - E2) : Nat) : Int) ((d * 2 ^ (E2 - E1) : Nat) : Int)) := by
  show FP.Core.cmp FP.Core.b32 _ _ = _
  rw [F32_nat hc h2, F32_nat hd k2, FP.Core.cmp, dec_fb hc h1 h2, dec_fb hd k1 k2, FP.Core.order, FP.Core.inUnits, FP.Core.inUnits, show (((E1 : Int) - 150) - min ((E1 : Int) - 150) ((E2 : Int) - 150)).toNat = E1 - E2 by omega, show (((E2 : Int) - 150) - min ((E1 : Int) - 150) ((E2 : Int) - 150)).toNat = E2 - E1 by omega]
  rfl
theorem cv_lt {c E1 E2 : Nat} {op : CmpOp} (hc : nrm c) (h1 : 1 ≤ E1) (h2 : E1 ≤ 254) (k1 : 1 ≤ E2) (k2 : E2 ≤ 254) (h : E1 < E2) : Op.cmpValue (FP.fcmp (F32 c E1) (F32 8388608 E2)) op = -1 := by
  have hp : 2 ^ 1 ≤ 2 ^ (E2 - E1) := Nat.pow_le_pow_right (by omega) (by omega)
  have := hc.2
  rw [fcmp_ord hc ⟨by omega, by omega⟩ h1 h2 k1 k2, cmpI_lt (by rw [show E1 - E2 = 0 by omega, Nat.pow_zero]; omega)]
  rfl
theorem cv_ge {c E1 E2 : Nat} {op : CmpOp} (hc : nrm c) (h1 : 1 ≤ E1) (h2 : E1 ≤ 254) (k1 : 1 ≤ E2) (k2 : E2 ≤ 254) (h : E2 ≤ E1) : Op.cmpValue (FP.fcmp (F32 c E1) (F32 8388608 E2)) op = nI 0 ∨ Op.cmpValue (FP.fcmp (F32 c E1) (F32 8388608 E2)) op = nI 1 := by
  have hp : 2 ^ 0 ≤ 2 ^ (E1 - E2) := Nat.pow_le_pow_right (by omega) (by omega)
  have hm : c * 1 ≤ c * 2 ^ (E1 - E2) := Nat.mul_le_mul_left _ hp
  have := hc.1
  rw [fcmp_ord hc ⟨by omega, by omega⟩ h1 h2 k1 k2, show E2 - E1 = 0 by omega, Nat.pow_zero, Nat.mul_one]
  rcases Nat.lt_or_ge 8388608 (c * 2 ^ (E1 - E2)) with q | q
  · rw [cmpI_gt (by omega)]
    exact Or.inr rfl
  · rw [show c * 2 ^ (E1 - E2) = 8388608 by omega, cmpI_eq]
    exact Or.inl rfl
theorem cv_0 {c E : Nat} {op : CmpOp} (hc : nrm c) (h1 : 1 ≤ E) (h2 : E ≤ 254) : Op.cmpValue (FP.fcmp (F32 c E) FP.fconst0) op = nI 1 := by
  have e : FP.fcmp (F32 c E) FP.fconst0 = some .gt := by
    show FP.Core.cmp FP.Core.b32 _ _ = _
    rw [F32_nat hc h2, FP.Core.cmp, dec_fb hc h1 h2, show FP.Core.decode FP.Core.b32 (FP.fconst0).toNat = .fin false 0 (-149) from by decide +kernel, FP.Core.order, FP.Core.inUnits, FP.Core.inUnits, Nat.zero_mul]
    show some (compare ((c * 2 ^ _ : Nat) : Int) ((0 : Nat) : Int)) = _
    rw [cmpI_gt]
    have hp := Nat.two_pow_pos (((E : Int) - 150) - min ((E : Int) - 150) (-149)).toNat
    have := Nat.mul_pos (show 0 < c by have := hc.1; omega) hp
    omega
  rw [e]; rfl
theorem f2i_fb {c : Nat} (hc : nrm c) : FP.f2i (F32 c 150) = nI c := by
  show FP.Core.toI (FP.Core.decode FP.Core.b32 (F32 c 150).toNat) = _
  rw [F32_nat hc (by omega), dec_fb hc (by omega) (by omega), FP.Core.toI, FP.Core.toInt, FP.Core.truncate, FP.Core.signed]
  have h := hc.2
  rw [show (((150 : Nat) : Int) - 150) = 0 by omega, show (0 : Int).toNat = 0 from rfl, show (-(0 : Int)).toNat = 0 from rfl, Nat.pow_zero, Nat.mul_one, Nat.div_one]
  have e : max (-2 ^ 31) (min (2 ^ 31 - 1) (c : Int)) = (c : Int) := by omega
  show Int32.ofInt (max (-2 ^ 31) (min (2 ^ 31 - 1) (c : Int))) = _
  rw [e]
  rfl
theorem or_sh {E f : Nat} (hE : E < 256) (hf : f < 8388608) : (nI E <<< (nI 23 &&& 31)) ||| nI f = nI (E * 8388608 + f) := by
  apply Int32.toBitVec_inj.mp
  apply BitVec.eq_of_toNat_eq
  have e : (nI 23 &&& 31 : Int32) = 23 := by decide +kernel
  rw [e, Int32.toBitVec_or, BitVec.toNat_or]
  have e1 : (nI E <<< (23 : Int32)).toBitVec.toNat = E <<< 23 := by
    rw [Int32.toBitVec_shiftLeft]
    show (BitVec.ofNat 32 E <<< (_ : BitVec 32)).toNat = _
    rw [show (Int32.toBitVec 23).smod 32 = 23#32 from by decide +kernel, BitVec.shiftLeft_eq', BitVec.toNat_shiftLeft, BitVec.toNat_ofNat, show (23#32).toNat = 23 from rfl, Nat.mod_eq_of_lt (a := E) (by omega), Nat.mod_eq_of_lt]
    rw [Nat.shiftLeft_eq]; omega
  have e2 : (nI f).toBitVec.toNat = f := by
    show (BitVec.ofNat 32 f).toNat = f
    rw [BitVec.toNat_ofNat, Nat.mod_eq_of_lt (by omega)]
  have e3 : (nI (E * 8388608 + f)).toBitVec.toNat = E * 8388608 + f := by
    show (BitVec.ofNat 32 _).toNat = _
    rw [BitVec.toNat_ofNat, Nat.mod_eq_of_lt (by omega)]
  rw [e1, e2, e3, ← Nat.shiftLeft_add_eq_or_of_lt (by omega), Nat.shiftLeft_eq]

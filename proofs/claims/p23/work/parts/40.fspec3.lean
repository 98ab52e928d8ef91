/-! a heap's middle as a float; what a heap holds -/
theorem cv_f {p : Program} {l : Launch} {e : Env} {R : Room} {s : State} {m : MethodId} {args : Array Value} {below : List Frame} {meth : Method} {c : Code} {H : Heap} {locs : List Loc} {cells slots pc : Nat} {Q : State → Prop} {ls : Array Slot} {rest : List Value} {x y : UInt32} (h : x = y) (kk : W p l e R s m args below meth c H locs cells slots Q (F0 m pc ls (.float y :: rest))) : W p l e R s m args below meth c H locs cells slots Q (F0 m pc ls (.float x :: rest)) := h ▸ kk
theorem cv_iff {c E k : Nat} {op : CmpOp} (hc : nrm c) (h1 : 1 ≤ E) (h2 : E ≤ 254) (k1 : 1 ≤ k) (k2 : k ≤ 254) : Op.cmpValue (FP.fcmp (F32 c E) (F32 8388608 k)) op < 0 ↔ E < k := by
  rcases Nat.lt_or_ge E k with q | q
  · rw [cv_lt hc h1 h2 k1 k2 q]
    exact ⟨fun _ => q, fun _ => by decide⟩
  · refine ⟨fun z => ?_, fun z => absurd z (by omega)⟩
    rcases cv_ge (op := op) hc h1 h2 k1 k2 q with h | h <;> (rw [h] at z; exact absurd z (by decide))
def shN (n : Nat) : Nat := 23 - n.log2
theorem nrm_sh {n : Nat} (h1 : 1 ≤ n) (h2 : n < 16777216) : nrm (n * 2 ^ shN n) ∧ shN n ≤ 23 := by
  have h0 : n ≠ 0 := by omega
  have a := (Nat.le_log2 h0).mp (Nat.le_refl n.log2)
  have b := (Nat.log2_lt h0).mp (Nat.lt_succ_self n.log2)
  have k : n.log2 < 24 := (Nat.log2_lt h0).mpr (by show n < 2 ^ 24; omega)
  have hp : 0 < 2 ^ shN n := Nat.two_pow_pos _
  refine ⟨⟨?_, ?_⟩, Nat.sub_le _ _⟩
  · have := Nat.mul_le_mul_right (2 ^ shN n) a
    rw [← Nat.pow_add, show n.log2 + shN n = 23 by unfold shN; omega] at this
    exact this
  · have := Nat.mul_lt_mul_of_pos_right b hp
    rw [← Nat.pow_add, show n.log2 + 1 + shN n = 24 by unfold shN; omega] at this
    exact this
def fbN (s w : Nat) : Nat := fb (dvN (s * 2 ^ shN s) (w * 2 ^ shN w)) (127 + (150 - shN s) - (150 - shN w) - dlt (s * 2 ^ shN s) (w * 2 ^ shN w))
def flM (s w : Nat) : UInt32 := if s = 0 then FP.fconst0 else UInt32.ofNat (fbN s w)
def flI (s w : Nat) : Int32 := if s = 0 then nI 0 else nI (fbN s w)
theorem fbN_n {s w : Nat} (s1 : 1 ≤ s) (s2 : s < 16777216) (w1 : 1 ≤ w) (w2 : w < 16777216) : ∃ c E, nrm c ∧ 1 ≤ E ∧ E ≤ 254 ∧ fbN s w = fb c E := by
  have a := nrm_sh s1 s2
  have b := nrm_sh w1 w2
  have hM := dvN_b a.1 b.1
  have hd := dlt_b a.1 b.1
  obtain ⟨c, E, h1, h2, h3, h4⟩ := fb_carry (E := 127 + (150 - shN s) - (150 - shN w) - dlt (s * 2 ^ shN s) (w * 2 ^ shN w)) hM.1 hM.2
  exact ⟨c, E, h1, by omega, by omega, h2⟩
theorem flM_div {s w : Nat} (s2 : s < 16777216) (w1 : 1 ≤ w) (w2 : w < 16777216) : FP.fdiv (FP.i2f (nI s)) (FP.i2f (nI w)) = flM s w := by
  have b := nrm_sh w1 w2
  rw [i2f_n b.1 b.2 (by omega)]
  unfold flM
  by_cases q : s = 0
  · rw [if_pos q, q]
    exact div_0 b.1 (by omega) (by omega)
  · rw [if_neg q]
    have a := nrm_sh (show 1 ≤ s by omega) s2
    rw [i2f_n a.1 a.2 (by omega), div_fb a.1 b.1 (by omega) (by omega) (by omega) (by omega) (by omega) (by omega)]
    rfl
theorem flM_n {s w : Nat} (s2 : s < 16777216) (w1 : 1 ≤ w) (w2 : w < 16777216) : vf_n32 (flM s w) := by
  unfold flM
  by_cases q : s = 0
  · rw [if_pos q]
    unfold vf_n32
    decide +kernel
  · rw [if_neg q]
    obtain ⟨c, E, h1, h2, h3, h4⟩ := fbN_n (show 1 ≤ s by omega) s2 w1 w2
    rw [h4]
    exact F32_n h1 h3
/-- a heap: its weight, its sum, its least and its greatest, each within its range -/
def GH (x : Hp) : Prop := ∃ w s l g : Nat, x = (nI w, nI s, nI l, nI g) ∧ 1 ≤ w ∧ w ≤ 200 ∧ w * l ≤ s ∧ s ≤ w * g ∧ g ≤ 9999
theorem GH_w {x : Hp} (h : GH x) : ∃ w s : Nat, h_w x = nI w ∧ h_s x = nI s ∧ 1 ≤ w ∧ w < 16777216 ∧ s < 16777216 := by
  obtain ⟨w, s, l, g, rfl, h1, h2, h3, h4, h5⟩ := h
  have := Nat.mul_le_mul h2 h5
  exact ⟨w, s, rfl, rfl, h1, by omega, by omega⟩
def hoV (A : List Hp) (n : Nat) : Nat → Int32
  | 0 => h_w (A.getD n hd0)
  | 1 => h_s (A.getD n hd0)
  | 2 => h_l (A.getD n hd0)
  | 3 => h_g (A.getD n hd0)
  | 4 => if 0 < h_w (A.getD n hd0) then h_s (A.getD n hd0) / h_w (A.getD n hd0) else 0
  | 5 => isum (A.map h_w) n
  | _ => flI (h_s (A.getD n hd0)).toNatClampNeg (h_w (A.getD n hd0)).toNatClampNeg
def cHo (X : SS) (i : Nat) (x w : Int32) : Int32 := if x < 0 then cINV else if ¬ (nI 0 ≤ w ∧ w ≤ nI 6) then cINV else if nI (X.2.2 i).1.length ≤ x then cNF else hoV (X.2.2 i).1 x.toNatClampNeg w.toNatClampNeg

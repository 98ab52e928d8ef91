/-! the model reads the text -/
def TX (σ : Me) (t : List Int32) : Prop := σ 0 1 = nI t.length ∧ t.length ≤ 60 ∧ ∀ i, i < t.length → σ 3 i = t.getD i 0
def ch8 (t : List Int32) (p : Nat) : Int32 := if p < t.length then t.getD p 0 else (-1)
theorem ch8_dg {t : List Int32} {p : Nat} : (nI 48 ≤ ch8 t p ∧ ch8 t p ≤ nI 57) ↔ 0 ≤ dgAt t p := by
  unfold ch8 dgAt
  by_cases q : p < t.length
  · rw [if_pos q]
    by_cases c : nI 48 ≤ t.getD p 0 ∧ t.getD p 0 ≤ nI 57
    · rw [if_pos c]
      refine ⟨fun _ => ?_, fun _ => c⟩
      obtain ⟨n, h1, h2, e⟩ := rng_nat (a := 48) (b := 57) (by omega) (by omega) c
      rw [e, pk_sub h1]
      exact nI_pos' (by omega)
    · rw [if_neg c]
      exact ⟨fun z => absurd z c, fun z => absurd z (by decide)⟩
  · rw [if_neg q, if_neg]
    · exact ⟨fun z => absurd z.1 (by decide), fun z => absurd z (by decide)⟩
    · have : t.getD p 0 = 0 := by rw [List.getD_eq_getElem?_getD, List.getElem?_eq_none_iff.mpr (by omega)]; rfl
      rw [this]
      exact fun z => absurd z.1 (by decide)
theorem ch8_d {t : List Int32} {p : Nat} (h : 0 ≤ dgAt t p) : ch8 t p - nI 48 = dgAt t p := by
  have c := ch8_dg.mpr h
  unfold ch8 at c ⊢
  unfold dgAt
  by_cases q : p < t.length
  · rw [if_pos q] at c ⊢
    rw [if_pos c]
  · rw [if_neg q] at c
    exact absurd c.1 (by decide)
/-- a number of the text, as the model has it while it reads -/
def nv8 (v : Int32) (g : Nat) : Int32 := if g = 0 then (-1) else v
theorem rv_0 {t : List Int32} {n : Nat} {v : Int32} {g e : Nat} (h : ¬ 0 ≤ dgAt t e) : rv t (n + 1) v g e = (v, g, e) := by rw [rv, if_neg h]
theorem rv_1 {t : List Int32} {n : Nat} {v : Int32} {g e : Nat} (h : 0 ≤ dgAt t e) : rv t (n + 1) v g e = rv t n (v * nI 10 + dgAt t e) (g + 1) (e + 1) := by rw [rv, if_pos h]
/-- the number so far is not negative, and small -/
def sm8 (v : Int32) (g : Nat) : Prop := ∃ n : Nat, n < 10 ^ g ∧ v = nI n
theorem sm8_0 : sm8 (nI 0) 0 := ⟨0, by decide, rfl⟩
theorem sm8_1 {t : List Int32} {v : Int32} {g e : Nat} (h : sm8 v g) (hd : 0 ≤ dgAt t e) : sm8 (v * nI 10 + dgAt t e) (g + 1) := by
  obtain ⟨n, hn, rfl⟩ := h
  obtain ⟨m, hm, e2⟩ := dgAt_n (t := t) (j := e) (Int32.not_lt.mpr hd)
  rw [e2, pk_mul, nI_add]
  refine ⟨n * 10 + m, ?_, rfl⟩
  rw [Nat.pow_succ]
  omega
theorem nv8_step {t : List Int32} {v : Int32} {g e : Nat} (h : sm8 v g) (hg : g ≤ 4) (hd : 0 ≤ dgAt t e) : (if nv8 v g < 0 then nI 0 else nI 10 * nv8 v g) + ch8 t e - nI 48 = v * nI 10 + dgAt t e ∧ (g = 0 → v = nI 0) → (if nv8 v g < 0 then nI 0 else nI 10 * nv8 v g) + ch8 t e - nI 48 = nv8 (v * nI 10 + dgAt t e) (g + 1) := by
  rintro ⟨z, -⟩
  rw [z]
  exact (if_neg (by omega)).symm
theorem nv8_pos {v : Int32} {g : Nat} (h : sm8 v g) (hg : g ≤ 4) (h0 : 0 < g) : nv8 v g = v ∧ ¬ v < 0 := by
  obtain ⟨n, hn, rfl⟩ := h
  have : 10 ^ g ≤ 10 ^ 4 := Nat.pow_le_pow_right (by omega) hg
  exact ⟨if_neg (by omega), nI_pos (by omega)⟩
theorem add_sub8 (a b c : Int32) : a + b - c = a + (b - c) := by rw [Int32.sub_eq_add_neg, Int32.sub_eq_add_neg, Int32.add_assoc]
theorem nv8_ge {v x d : Int32} {g : Nat} (hs : sm8 v g) (hg : g ≤ 4) (c : 0 ≤ nv8 v g) (hc : x - nI 48 = d) : nI 10 * nv8 v g + x - nI 48 = nv8 (v * nI 10 + d) (g + 1) := by
  rcases Nat.eq_zero_or_pos g with z | z
  · rw [nv8, if_pos z] at c
    exact absurd c (by decide)
  · obtain ⟨z1, -⟩ := nv8_pos hs hg z
    rw [add_sub8, hc, z1, Int32.mul_comm]
    exact (if_neg (by omega)).symm
theorem nv8_lt {v x d : Int32} {g : Nat} (hs : sm8 v g) (hv : g = 0 → v = nI 0) (hg : g ≤ 4) (c : ¬ 0 ≤ nv8 v g) (hc : x - nI 48 = d) : nI 0 + x - nI 48 = nv8 (v * nI 10 + d) (g + 1) := by
  rcases Nat.eq_zero_or_pos g with z | z
  · rw [add_sub8, hc, hv z, show nI 0 * nI 10 = nI 0 from by decide +kernel]
    exact (if_neg (by omega)).symm
  · obtain ⟨z1, z2⟩ := nv8_pos hs hg z
    rw [z1] at c
    exact absurd (Int32.not_lt.mp z2) c
theorem nx_ge {v : Int32} {g : Nat} (hs : sm8 v g) (hg : g ≤ 4) (c : 0 ≤ nv8 v g) : nI 10 * nv8 v g = v * nI 10 := by
  rcases Nat.eq_zero_or_pos g with z | z
  · rw [nv8, if_pos z] at c
    exact absurd c (by decide)
  · obtain ⟨z1, -⟩ := nv8_pos hs hg z
    rw [z1, Int32.mul_comm]
theorem nx_lt {v : Int32} {g : Nat} (hs : sm8 v g) (hv : g = 0 → v = nI 0) (hg : g ≤ 4) (c : ¬ 0 ≤ nv8 v g) : nI 0 = v * nI 10 := by
  rcases Nat.eq_zero_or_pos g with z | z
  · rw [hv z]
    decide +kernel
  · obtain ⟨z1, z2⟩ := nv8_pos hs hg z
    rw [z1] at c
    exact absurd (Int32.not_lt.mp z2) c
theorem nx_fin {v x d : Int32} {g : Nat} (hc : x - nI 48 = d) : v * nI 10 + x - nI 48 = nv8 (v * nI 10 + d) (g + 1) := by
  rw [add_sub8, hc]
  exact (if_neg (by omega)).symm

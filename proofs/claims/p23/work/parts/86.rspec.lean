/-! the model reads a part -/
def wd8 (σ : Me) (i n : Nat) : Me := if i < 3 then mu σ 9 i (σ 9 i + nI n) else σ
theorem wd8_0 {σ : Me} {i : Nat} : wd8 σ i 0 = σ := by
  unfold wd8
  split
  · exact mu_id (by rw [show nI 0 = (0 : Int32) from rfl, Int32.add_zero])
  · rfl
theorem wd8_n {σ : Me} {i n : Nat} (h : ¬ i < 3) : wd8 σ i n = σ := if_neg h
theorem wd8_k {σ : Me} {i n k : Nat} (h : k ≠ 9) : wd8 σ i n k = σ k := by
  unfold wd8
  split
  · exact mu_r h
  · rfl
theorem mu_sw {σ : Me} {k i k' i' : Nat} {v w : Int32} (h : k ≠ k') : mu (mu σ k i v) k' i' w = mu (mu σ k' i' w) k i v := by
  funext a b
  unfold mu
  by_cases q : a = k' ∧ b = i'
  · rw [if_pos q, if_neg (fun z => h (z.1.symm.trans q.1)), if_pos q]
  · rw [if_neg q]
    by_cases q2 : a = k ∧ b = i
    · rw [if_pos q2, if_pos q2]
    · rw [if_neg q2, if_neg q2, if_neg q]
theorem wd8_1 {σ : Me} {i n : Nat} {x : Int32} (h : i < 3) : mu (mu (wd8 σ i n) 0 3 x) 9 i ((mu (wd8 σ i n) 0 3 x) 9 i + nI 1) = mu (wd8 σ i (n + 1)) 0 3 x := by
  rw [mu_sw (by omega), show (mu (wd8 σ i n) 0 3 x) 9 i = wd8 σ i n 9 i from mu_k (by omega)]
  unfold wd8
  rw [if_pos h, if_pos h, mu_mu, mu_s, Int32.add_assoc, nI_add]
theorem TX_wd {σ : Me} {t : List Int32} {i n : Nat} {x : Int32} (h : TX σ t) : TX (mu (wd8 σ i n) 0 3 x) t := by
  refine ⟨?_, h.2.1, fun j hj => ?_⟩
  · rw [mu_i (by omega), wd8_k (by omega)]; exact h.1
  · rw [mu_k (by omega), wd8_k (by omega)]; exact h.2.2 j hj
theorem rF_21 {t : List Int32} {s : Nat} : (rF t s).2.1 = dgAt t s := by
  unfold rF
  split
  · rfl
  · unfold rF2
    split
    · rfl
    · split <;> rfl
theorem rF_n {t : List Int32} {s : Nat} (h : dgAt t s < 0) : rF t s = (false, dgAt t s, [], s) := by rw [rF, if_pos h]
theorem rF_y {t : List Int32} {s : Nat} (h : ¬ dgAt t s < 0) : rF t s = rF2 t s (rL t 60 (decide (t.getD (s + 1) 0 = nI 58)) [] (s + 1)) := by rw [rF, if_neg h]
theorem rL_no {t vs : List Int32} {n e : Nat} : rL t n false vs e = (true, vs, e) := by
  cases n with
  | zero => rfl
  | succ n => rw [rL, if_neg (by decide)]
theorem rL_bad {t vs : List Int32} {n e : Nat} (h : (rv t 4 (nI 0) 0 (e + 1)).2.1 = 0) : rL t (n + 1) true vs e = (false, vs, (rv t 4 (nI 0) 0 (e + 1)).2.2) := by
  rw [rL, if_pos rfl, if_pos h]
theorem rL_go {t vs : List Int32} {n e : Nat} (h : (rv t 4 (nI 0) 0 (e + 1)).2.1 ≠ 0) : rL t (n + 1) true vs e = rL t n (decide (t.getD (rv t 4 (nI 0) 0 (e + 1)).2.2 0 = nI 44)) (vs ++ [(rv t 4 (nI 0) 0 (e + 1)).1]) (rv t 4 (nI 0) 0 (e + 1)).2.2 := by
  rw [rL, if_pos rfl, if_neg h]
theorem ch8_is {t : List Int32} {e n : Nat} (h0 : 0 < n) (hn : n < 1000) : ch8 t e = nI n ↔ t.getD e 0 = nI n := by
  unfold ch8
  by_cases q : e < t.length
  · rw [if_pos q]
  · rw [if_neg q, List.getD_eq_getElem?_getD, List.getElem?_eq_none_iff.mpr (by omega)]
    exact ⟨fun z => absurd (show (-1 : Int32) < 0 by decide) (by rw [z]; exact nI_pos (by omega)), fun z => absurd ((nI_eq (by omega) (by omega)).mp (show nI 0 = nI n from z)) (by omega)⟩
theorem ch8_lt {t : List Int32} {e n : Nat} (hn : n < 1000) (h : ch8 t e = nI n) : e < t.length := by
  rcases Nat.lt_or_ge e t.length with q | q
  · exact q
  · unfold ch8 at h
    rw [if_neg (by omega)] at h
    exact absurd (show (-1 : Int32) < 0 by decide) (by rw [h]; exact nI_pos (by omega))
theorem rv_g {t : List Int32} : ∀ (n : Nat) (v : Int32) (g e : Nat), sm8 v g → (rv t n v g e).2.2 + g = e + (rv t n v g e).2.1 ∧ g ≤ (rv t n v g e).2.1 ∧ (rv t n v g e).2.1 ≤ g + n ∧ sm8 (rv t n v g e).1 (rv t n v g e).2.1
  | 0, v, g, e, h => ⟨rfl, Nat.le_refl _, Nat.le_refl _, h⟩
  | n + 1, v, g, e, h => by
    by_cases q : 0 ≤ dgAt t e
    · rw [rv_1 q]
      obtain ⟨a, b, d, f⟩ := rv_g n (v * nI 10 + dgAt t e) (g + 1) (e + 1) (sm8_1 h q)
      exact ⟨by omega, by omega, by omega, f⟩
    · rw [rv_0 q]
      exact ⟨rfl, Nat.le_refl _, Nat.le_add_right _ _, h⟩
theorem nv8_s {v : Int32} {g : Nat} : nv8 v (g + 1) = v := if_neg (by omega)
theorem nv8_z {v : Int32} : nv8 v 0 = (-1) := if_pos rfl
theorem rv_d1 {t : List Int32} {s : Nat} : nv8 (rv t 1 (nI 0) 0 s).1 (rv t 1 (nI 0) 0 s).2.1 = dgAt t s ∧ (rv t 1 (nI 0) 0 s).2.2 = if dgAt t s < 0 then s else s + 1 := by
  by_cases q : 0 ≤ dgAt t s
  · rw [rv_1 q, if_neg (Int32.not_lt.mpr q)]
    refine ⟨?_, rfl⟩
    show nv8 (nI 0 * nI 10 + dgAt t s) (0 + 1) = _
    rw [nv8_s, show nI 0 * nI 10 = (0 : Int32) from by decide +kernel, Int32.zero_add]
  · rw [rv_0 q, if_pos (Int32.not_le.mp q)]
    refine ⟨?_, rfl⟩
    show nv8 (nI 0) 0 = _
    rw [nv8_z]
    unfold dgAt at q ⊢
    split at q
    · rename_i q2
      obtain ⟨n, h1, h2, e⟩ := rng_nat (a := 48) (b := 57) (by omega) (by omega) q2
      rw [e, pk_sub h1] at q
      exact absurd (nI_pos' (by omega)) q
    · rename_i q2
      rw [if_neg q2]
/-- a number of at most four digits -/
theorem rv_4 {t : List Int32} {e : Nat} : ((rv t 4 (nI 0) 0 e).2.1 = 0 → nv8 (rv t 4 (nI 0) 0 e).1 (rv t 4 (nI 0) 0 e).2.1 < 0) ∧ ((rv t 4 (nI 0) 0 e).2.1 ≠ 0 → nv8 (rv t 4 (nI 0) 0 e).1 (rv t 4 (nI 0) 0 e).2.1 = (rv t 4 (nI 0) 0 e).1 ∧ Vn (rv t 4 (nI 0) 0 e).1 ∧ e < (rv t 4 (nI 0) 0 e).2.2) := by
  obtain ⟨a, b, d, f⟩ := rv_g (t := t) 4 (nI 0) 0 e sm8_0
  refine ⟨fun z => by rw [z, nv8_z]; decide, fun z => ⟨if_neg z, ?_, by omega⟩⟩
  obtain ⟨n, hn, e2⟩ := f
  have h4 : 10 ^ (rv t 4 (nI 0) 0 e).2.1 ≤ 10 ^ 4 := Nat.pow_le_pow_right (by omega) (by omega)
  exact ⟨n, by omega, e2⟩
theorem rv_le {t : List Int32} {e : Nat} : e ≤ (rv t 4 (nI 0) 0 e).2.2 ∧ (rv t 4 (nI 0) 0 e).2.2 ≤ e + 4 := by
  obtain ⟨a, b, d, f⟩ := rv_g (t := t) 4 (nI 0) 0 e sm8_0
  omega
/-- what the model answers for a part -/
def rdA (t : List Int32) (s : Nat) : Int32 := if (rF t s).1 = true then (rF t s).2.1 else (-1)

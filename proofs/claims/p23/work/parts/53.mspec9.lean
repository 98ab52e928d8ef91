/-! the model's order of the found heaps -/
theorem gt8 {a b : Hp} (ha : GH a) (hb : GH b) : gtH a b = true ↔ h_s b * h_w a < h_s a * h_w b := by
  obtain ⟨w, s, l, g, rfl, h1, h2, h3, h4, h5⟩ := ha
  obtain ⟨w', s', l', g', rfl, k1, k2, k3, k4, k5⟩ := hb
  have m1 : w * g ≤ 200 * 9999 := Nat.mul_le_mul h2 h5
  have m2 : w' * g' ≤ 200 * 9999 := Nat.mul_le_mul k2 k5
  have n1 : s' * w ≤ 1999800 * 200 := Nat.mul_le_mul (by omega) h2
  have n2 : s * w' ≤ 1999800 * 200 := Nat.mul_le_mul (by omega) k2
  show decide ((nI s').toInt * (nI w).toInt < (nI s).toInt * (nI w').toInt) = true ↔ nI s' * nI w < nI s * nI w'
  rw [decide_eq_true_iff, pk_mul, pk_mul, nI_ltI (by omega) (by omega), nI_toInt (by omega), nI_toInt (by omega), nI_toInt (by omega), nI_toInt (by omega), ← Int.natCast_mul, ← Int.natCast_mul]
  exact Int.ofNat_lt
theorem swp_lo {α : Type} {d : α} {l : List α} {i : Nat} (h : i + 1 < l.length) : (swp d l i (i + 1)).getD i d = l.getD (i + 1) d := by
  rw [swp, getD_set_ne (by omega), getD_set_self (by omega)]
theorem swp_hi {α : Type} {d : α} {l : List α} {i : Nat} (h : i + 1 < l.length) : (swp d l i (i + 1)).getD (i + 1) d = l.getD i d := by
  rw [swp, getD_set_self (by rw [List.length_set]; omega)]
theorem swp_ot {α : Type} {d : α} {l : List α} {i j : Nat} (h1 : j ≠ i) (h2 : j ≠ i + 1) : (swp d l i (i + 1)).getD j d = l.getD j d := by
  rw [swp, getD_set_ne (Ne.symm h2), getD_set_ne (Ne.symm h1)]
theorem HL_fill {σ : Me} {B : List Hp} {n P : Nat} (hB : B.length = n) (hm : σ 0 2 = nI n) (hx : hp8 σ n = B.getD P hd0) (hh : ∀ i, i < n → i ≠ P → hp8 σ i = B.getD i hd0) : HL (put8 σ P (hp8 σ n)) B := by
  refine ⟨by rw [put8_o (by omega) (by omega) (by omega) (by omega), hm, hB], fun i hi => ?_⟩
  by_cases q : i = P
  · rw [q, hp8_s, hx]
  · rw [hp8_n q]
    exact hh i (by omega) q
theorem hole_next {σ : Me} {B : List Hp} {n p : Nat} (hB : B.length = n) (hp : p + 1 < n) (hx : hp8 σ n = B.getD (p + 1) hd0) (hh : ∀ i, i < n → i ≠ p + 1 → hp8 σ i = B.getD i hd0) :
    hp8 (put8 σ (p + 1) (hp8 σ p)) n = (swp hd0 B p (p + 1)).getD p hd0 ∧ ∀ i, i < n → i ≠ p → hp8 (put8 σ (p + 1) (hp8 σ p)) i = (swp hd0 B p (p + 1)).getD i hd0 := by
  refine ⟨by rw [hp8_n (by omega), hx, swp_lo (by omega)], fun i hi hip => ?_⟩
  by_cases q : i = p + 1
  · rw [q, hp8_s, swp_hi (by omega)]
    exact hh p (by omega) (by omega)
  · rw [hp8_n q, swp_ot hip q]
    exact hh i hi q

/-! what the model's arrays hold: the found heaps, a digest, a state -/
def hp8 (σ : Me) (j : Nat) : Hp := (σ 4 j, σ 5 j, σ 6 j, σ 7 j)
def put8 (σ : Me) (j : Nat) (x : Hp) : Me := mu (mu (mu (mu σ 4 j x.1) 5 j x.2.1) 6 j x.2.2.1) 7 j x.2.2.2
theorem hp8_s {σ : Me} {j : Nat} {x : Hp} : hp8 (put8 σ j x) j = x := by simp [hp8, put8, mu]
theorem hp8_n {σ : Me} {i j : Nat} {x : Hp} (h : i ≠ j) : hp8 (put8 σ j x) i = hp8 σ i := by simp [hp8, put8, mu, h]
theorem put8_o {σ : Me} {i j k : Nat} {x : Hp} (h4 : k ≠ 4) (h5 : k ≠ 5) (h6 : k ≠ 6) (h7 : k ≠ 7) : put8 σ j x k i = σ k i := by simp [put8, mu, h4, h5, h6, h7]
theorem hp8_o {σ : Me} {i j k : Nat} {v : Int32} (h4 : k ≠ 4) (h5 : k ≠ 5) (h6 : k ≠ 6) (h7 : k ≠ 7) : hp8 (mu σ k j v) i = hp8 σ i := by
  unfold hp8
  rw [mu_k (Ne.symm h4), mu_k (Ne.symm h5), mu_k (Ne.symm h6), mu_k (Ne.symm h7)]
def HL (σ : Me) (A : List Hp) : Prop := σ 0 2 = nI A.length ∧ ∀ i, i < A.length → hp8 σ i = A.getD i hd0
/-- all but the found heaps and their number is as it was -/
def Ot (σ u : Me) : Prop := ∀ k i, k ≠ 4 → k ≠ 5 → k ≠ 6 → k ≠ 7 → ¬ (k = 0 ∧ i = 2) → u k i = σ k i
theorem Ot.rf {σ : Me} : Ot σ σ := fun _ _ _ _ _ _ _ => rfl
theorem Ot.tr {σ u v : Me} (a : Ot σ u) (b : Ot u v) : Ot σ v := fun k i h4 h5 h6 h7 h => (b k i h4 h5 h6 h7 h).trans (a k i h4 h5 h6 h7 h)
theorem Ot.put {σ : Me} {j : Nat} {x : Hp} : Ot σ (put8 σ j x) := fun _ _ h4 h5 h6 h7 _ => put8_o h4 h5 h6 h7
theorem Ot.many {σ : Me} {v : Int32} : Ot σ (mu σ 0 2 v) := fun k i _ _ _ _ h => if_neg h
theorem Ot.r1 {σ u : Me} (a : Ot σ u) : u 1 = σ 1 := by
  funext i
  exact a 1 i (by omega) (by omega) (by omega) (by omega) (by omega)
/-- one heap more is found -/
def tk8 (σ : Me) (n : Nat) (x : Hp) : Me := mu (put8 σ n x) 0 2 (nI (n + 1))
theorem Ot.tk {σ : Me} {n : Nat} {x : Hp} : Ot σ (tk8 σ n x) := Ot.put.tr Ot.many
theorem HL.tk {σ : Me} {A : List Hp} {x : Hp} (h : HL σ A) : HL (tk8 σ A.length x) (A ++ [x]) := by
  refine ⟨by rw [tk8, mu_s, List.length_append, List.length_singleton], fun i hi => ?_⟩
  rw [List.length_append, List.length_singleton] at hi
  rw [tk8, hp8_o (by omega) (by omega) (by omega) (by omega)]
  by_cases q : i = A.length
  · rw [q, hp8_s, List.getD_eq_getElem?_getD, List.getElem?_append_right (Nat.le_refl _), Nat.sub_self]
    rfl
  · rw [hp8_n q, h.2 i (by omega), List.getD_eq_getElem?_getD, List.getD_eq_getElem?_getD, List.getElem?_append_left (by omega)]
theorem HL.nil {σ : Me} : HL (mu σ 0 2 (nI 0)) [] := ⟨mu_s, fun i hi => absurd hi (Nat.not_lt_zero _)⟩
def hpS (f : Nat → Int32) (d j : Nat) : Hp := (f (2 + 1024 * d + (4 + 4 * j + 0)), f (2 + 1024 * d + (4 + 4 * j + 1)), f (2 + 1024 * d + (4 + 4 * j + 2)), f (2 + 1024 * d + (4 + 4 * j + 3)))
def MDg (f : Nat → Int32) (d : Nat) (D : Dg) : Prop :=
  f (2 + 1024 * d + 0) = nI D.1.length ∧ f (2 + 1024 * d + 1) = nI D.2.1.length ∧ f (2 + 1024 * d + 2) = nI D.2.2.1.length ∧ f (2 + 1024 * d + 3) = D.2.2.2 ∧
    (∀ j, j < D.1.length → hpS f d j = D.1.getD j hd0) ∧ (∀ j, j < D.2.1.length → f (2 + 1024 * d + (804 + j)) = D.2.1.getD j 0) ∧ (∀ j, j < D.2.2.1.length → f (2 + 1024 * d + (824 + j)) = D.2.2.1.getD j 0)
theorem MDg.congr {f g : Nat → Int32} {d : Nat} {D : Dg} (h : MDg f d D) (l1 : D.1.length ≤ 200) (l2 : D.2.1.length ≤ 20) (l3 : D.2.2.1.length ≤ 200) (e : ∀ i, 2 + 1024 * d ≤ i → i < 2 + 1024 * (d + 1) → g i = f i) : MDg g d D := by
  obtain ⟨a, b, c, p, q, r, s⟩ := h
  refine ⟨(e _ (by omega) (by omega)).trans a, (e _ (by omega) (by omega)).trans b, (e _ (by omega) (by omega)).trans c, (e _ (by omega) (by omega)).trans p, fun j hj => ?_, fun j hj => (e _ (by omega) (by omega)).trans (r j hj), fun j hj => (e _ (by omega) (by omega)).trans (s j hj)⟩
  rw [← q j hj]
  unfold hpS
  rw [e _ (by omega) (by omega), e _ (by omega) (by omega), e _ (by omega) (by omega), e _ (by omega) (by omega)]
def MS (f : Nat → Int32) (X : SS) : Prop := f 0 = X.1 ∧ f 1 = X.2.1 ∧ ∀ i, i < 3 → MDg f i (X.2.2 i)

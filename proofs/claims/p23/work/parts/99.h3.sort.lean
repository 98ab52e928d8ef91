/-! passes over heaps bring them into order -/
theorem mle_gt {x y : Hp} (hx : GH x) (hy : GH y) : ¬ gtH x y = true ↔ mle x y := by
  rw [gtH_n hx hy]
  exact Nat.not_lt
def SF (C : List Hp) (m : Nat) : Prop := ∀ j, m ≤ j → j < C.length → ∀ i, i < j → mle (C.getD i hd0) (C.getD j hd0)
theorem swp_getD {C : List Hp} {k j : Nat} (h : k + 1 < C.length) : (swp hd0 C k (k + 1)).getD j hd0 = if j = k + 1 then C.getD k hd0 else if j = k then C.getD (k + 1) hd0 else C.getD j hd0 := by
  rw [swp]
  by_cases h1 : j = k + 1
  · subst h1
    rw [getD_set_self (by rw [List.length_set]; exact h), if_pos rfl]
  · rw [getD_set_ne (Ne.symm h1), if_neg h1]
    by_cases h2 : j = k
    · subst h2
      rw [getD_set_self (by omega), if_pos rfl]
    · rw [getD_set_ne (Ne.symm h2), if_neg h2]
theorem bst_A {B : List Hp} {m : Nat} (hg : ∀ x ∈ B, GH x) (hS : SF B m) (hm : m ≤ B.length) : ∀ k, k < m → SF (bst B k) m ∧ ∀ i, i < k → mle ((bst B k).getD i hd0) ((bst B k).getD k hd0)
  | 0, _ => ⟨hS, fun i hi => absurd hi (Nat.not_lt_zero _)⟩
  | k + 1, h => by
    obtain ⟨a, b⟩ := bst_A hg hS hm k (by omega)
    obtain ⟨-, g⟩ := bst_ord hg k (by omega)
    have hl := bst_len (B := B) k
    have gk : ∀ i, i < B.length → GH ((bst B k).getD i hd0) := fun i hi => g _ (mem_getD (by omega))
    rw [bst]
    by_cases c : gtH ((bst B k).getD k hd0) ((bst B k).getD (k + 1) hd0) = true
    · rw [if_pos c]
      have hk1 : k + 1 < (bst B k).length := by omega
      refine ⟨fun j hj hjl i hi => ?_, fun i hi => ?_⟩
      · rw [swp_len] at hjl
        rw [swp_getD hk1, swp_getD hk1, if_neg (show ¬ j = k + 1 by omega), if_neg (show ¬ j = k by omega)]
        by_cases q1 : i = k + 1
        · rw [if_pos q1]; exact a j hj hjl k (by omega)
        · rw [if_neg q1]
          by_cases q2 : i = k
          · rw [if_pos q2]; exact a j hj hjl (k + 1) (by omega)
          · rw [if_neg q2]; exact a j hj hjl i hi
      · rw [swp_getD hk1, swp_getD hk1, if_pos rfl, if_neg (show ¬ i = k + 1 by omega)]
        by_cases q2 : i = k
        · rw [if_pos q2]
          exact (mle_gt (gk _ (by omega)) (gk _ (by omega))).mp (gtH_as (gk _ (by omega)) (gk _ (by omega)) c)
        · rw [if_neg q2]
          exact b i (by omega)
    · rw [if_neg c]
      have c2 := (mle_gt (gk _ (by omega)) (gk _ (by omega))).mp c
      refine ⟨a, fun i hi => ?_⟩
      by_cases q : i = k
      · rw [q]; exact c2
      · exact mle_tr (wN_GH (gk k (by omega))).2.1 (b i (by omega)) c2
theorem bst_B {B : List Hp} {m : Nat} (hg : ∀ x ∈ B, GH x) (hS : SF B (m + 1)) (hm : m + 1 ≤ B.length) : ∀ z, m + z < B.length → bst B (m + z) = bst B m
  | 0, _ => rfl
  | z + 1, h => by
    have e := bst_B hg hS hm z (by omega)
    obtain ⟨a, -⟩ := bst_A hg hS hm m (by omega)
    obtain ⟨-, g⟩ := bst_ord hg m (by omega)
    have hl := bst_len (B := B) m
    have gk : ∀ i, i < B.length → GH ((bst B m).getD i hd0) := fun i hi => g _ (mem_getD (by omega))
    show bst B (m + z + 1) = _
    rw [bst, e, if_neg]
    exact (mle_gt (gk _ (by omega)) (gk _ (by omega))).mpr (a (m + z + 1) (by omega) (by omega) (m + z) (by omega))
theorem bst_S {B : List Hp} {m : Nat} (hg : ∀ x ∈ B, GH x) (hS : SF B (m + 1)) (hm : m + 1 ≤ B.length) : SF (bst B (B.length - 1)) m := by
  have e := bst_B hg hS hm (B.length - 1 - m) (by omega)
  rw [show m + (B.length - 1 - m) = B.length - 1 by omega] at e
  rw [e]
  obtain ⟨a, b⟩ := bst_A hg hS hm m (by omega)
  intro j hj hjl i hi
  by_cases q : j = m
  · rw [q] at hi ⊢; exact b i hi
  · exact a j (by omega) hjl i hi
theorem bitr_S {A : List Hp} (hg : ∀ x ∈ A, GH x) : ∀ r, r ≤ A.length → SF (bitr A r) (A.length - r)
  | 0, _ => fun j hj hjl => by
    have : j < A.length := hjl
    omega
  | r + 1, h => by
    have hl := bitr_len (A := A) r
    have ih := bitr_S hg r (by omega)
    rw [show A.length - r = A.length - (r + 1) + 1 by omega] at ih
    have := bst_S (bitr_ord hg r).2 ih (by omega)
    rw [hl] at this
    exact this
theorem bitr_order {A : List Hp} (hg : ∀ x ∈ A, GH x) : bitr A A.length = order A := by
  have hS := bitr_S hg A.length (Nat.le_refl _)
  obtain ⟨a, b⟩ := bitr_ord hg A.length
  have hl := bitr_len (A := A) A.length
  rw [← a]
  rcases Nat.eq_zero_or_pos A.length with q | q
  · rw [List.length_eq_zero_iff.mp (hl.trans q)]; rfl
  · rw [order, oSort_id (fun i hi => ?_) _ (by omega)]
    exact (mle_gt (b _ (mem_getD (by omega))) (b _ (mem_getD (by omega)))).mpr (hS (i + 1) (by omega) hi i (by omega))

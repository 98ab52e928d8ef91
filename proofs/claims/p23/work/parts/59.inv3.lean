/-! a state of the model: only its lengths matter where its numbers are moved -/
def LX (X : SS) : Prop := ∀ i, i < 3 → (X.2.2 i).1.length ≤ 200 ∧ (X.2.2 i).2.1.length ≤ 20 ∧ (X.2.2 i).2.2.1.length ≤ 200
theorem XI.L {X : SS} (h : XI X) : LX X := fun i hi => by
  obtain ⟨a, b, c, -⟩ := h.1 i hi
  exact ⟨by omega, c, b⟩
theorem LX_setD {X : SS} {d : Nat} {E : Dg} (h : LX X) (l1 : E.1.length ≤ 200) (l2 : E.2.1.length ≤ 20) (l3 : E.2.2.1.length ≤ 200) : LX (setD X d E) := fun i hi => by
  by_cases q : i = d
  · subst q; rw [setD_i]; exact ⟨l1, l2, l3⟩
  · rw [setD_n q]; exact h i hi
theorem MS_ofL {f g : Nat → Int32} {X : SS} {d : Nat} {E : Dg} (hS : MS f X) (hX : LX X) (he : ∀ i, i < 2 + 1024 * d ∨ 2 + 1024 * (d + 1) ≤ i → g i = f i) (hD : MDg g d E) : MS g (setD X d E) := by
  obtain ⟨a, b, c⟩ := hS
  refine ⟨(he 0 (by omega)).trans a, (he 1 (by omega)).trans b, fun i hi => ?_⟩
  by_cases q : i = d
  · subst q
    rw [setD_i]
    exact hD
  · rw [setD_n q]
    obtain ⟨l1, l2, l3⟩ := hX i hi
    exact (c i hi).congr l1 l2 l3 (fun j h1 h2 => he j (by omega))
theorem MS_of2 {f g : Nat → Int32} {X : SS} {d : Nat} {E E2 : Dg} (hS : MS f (setD X d E)) (hX : LX X) (he : ∀ i, i < 2 + 1024 * d ∨ 2 + 1024 * (d + 1) ≤ i → g i = f i) (hD : MDg g d E2) : MS g (setD X d E2) := by
  obtain ⟨a, b, c⟩ := hS
  refine ⟨(he 0 (by omega)).trans a, (he 1 (by omega)).trans b, fun i hi => ?_⟩
  by_cases q : i = d
  · subst q
    rw [setD_i]
    exact hD
  · have hc := c i hi
    rw [setD_n q] at hc ⊢
    obtain ⟨l1, l2, l3⟩ := hX i hi
    exact hc.congr l1 l2 l3 (fun j h1 h2 => he j (by omega))
theorem MS_D {f : Nat → Int32} {X : SS} {d : Nat} {E : Dg} (hS : MS f (setD X d E)) (hd : d < 3) : MDg f d E := by
  have := hS.2.2 d hd
  rw [setD_i] at this
  exact this
theorem HL_k {σ u : Me} {A : List Hp} (h : HL σ A) (e : ∀ k, k ≠ 1 → u k = σ k) : HL u A := by
  refine ⟨by rw [e 0 (by omega)]; exact h.1, fun i hi => ?_⟩
  rw [← h.2 i hi]
  unfold hp8
  rw [e 4 (by omega), e 5 (by omega), e 6 (by omega), e 7 (by omega)]
theorem trL_len {X : SS} {d : Nat} (hX : XI X) (hd : d < 3) : (trL X d).length ≤ 200 := by
  obtain ⟨a, b, -⟩ := hX.1 d hd
  have := packL_len (f := X.1) (A := (X.2.2 d).1 ++ (X.2.2 d).2.1.map hunit)
  rw [List.length_append, List.length_map] at this
  unfold trL
  omega
/-- a row of numbers is moved from one array into another -/
def cp8 (σ : Me) (a f b t n : Nat) : Me := fun k i => if k = b ∧ t ≤ i ∧ i < t + n then σ a (f + (i - t)) else σ k i
theorem cp8_0 {σ : Me} {a f b t : Nat} : cp8 σ a f b t 0 = σ := by
  funext k i
  exact if_neg (by omega)
theorem cp8_1 {σ : Me} {a f b t n : Nat} (h : a ≠ b) : mu (cp8 σ a f b t n) b (t + n) (cp8 σ a f b t n a (f + n)) = cp8 σ a f b t (n + 1) := by
  funext k i
  have e : cp8 σ a f b t n a (f + n) = σ a (f + n) := if_neg (fun q => h q.1)
  rw [e]
  unfold mu
  by_cases q : k = b ∧ i = t + n
  · obtain ⟨rfl, rfl⟩ := q
    rw [if_pos ⟨rfl, rfl⟩]
    unfold cp8
    rw [if_pos ⟨rfl, by omega, by omega⟩, show f + (t + n - t) = f + n by omega]
  · rw [if_neg q]
    unfold cp8
    by_cases q2 : k = b ∧ t ≤ i ∧ i < t + n
    · rw [if_pos q2, if_pos ⟨q2.1, q2.2.1, by omega⟩]
    · rw [if_neg q2, if_neg (fun z => q2 ⟨z.1, z.2.1, by have := z.2.2; have : i ≠ t + n := fun w => q ⟨z.1, w⟩; omega⟩)]

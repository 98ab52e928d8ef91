/-! the least and the greatest of a digest are those of its values -/
def cov (x : Hp) (v : Int32) : Prop := h_l x ≤ v ∧ v ≤ h_g x
def eds (V : List Int32) (x : Hp) : Prop := h_l x ∈ V ∧ h_g x ∈ V
theorem cov_uni {a b : Hp} {v : Int32} (h : cov a v ∨ cov b v) : cov (unI a b) v := by
  have h1 : h_l (unI a b) ≤ h_l a ∧ h_l (unI a b) ≤ h_l b := by
    show (if h_l b < h_l a then h_l b else h_l a) ≤ h_l a ∧ (if h_l b < h_l a then h_l b else h_l a) ≤ h_l b
    by_cases q : h_l b < h_l a
    · rw [if_pos q]; exact ⟨Int32.le_of_lt q, Int32.le_rfl⟩
    · rw [if_neg q]; exact ⟨Int32.le_rfl, Int32.not_lt.mp q⟩
  have h2 : h_g a ≤ h_g (unI a b) ∧ h_g b ≤ h_g (unI a b) := by
    show h_g a ≤ (if h_g a < h_g b then h_g b else h_g a) ∧ h_g b ≤ (if h_g a < h_g b then h_g b else h_g a)
    by_cases q : h_g a < h_g b
    · rw [if_pos q]; exact ⟨Int32.le_of_lt q, Int32.le_rfl⟩
    · rw [if_neg q]; exact ⟨Int32.le_rfl, Int32.not_lt.mp q⟩
  rcases h with h | h
  · exact ⟨Int32.le_trans h1.1 h.1, Int32.le_trans h.2 h2.1⟩
  · exact ⟨Int32.le_trans h1.2 h.1, Int32.le_trans h.2 h2.2⟩
theorem eds_uni {V : List Int32} {a b : Hp} (ha : eds V a) (hb : eds V b) : eds V (unI a b) := by
  refine ⟨?_, ?_⟩
  · show (if h_l b < h_l a then h_l b else h_l a) ∈ V
    split
    · exact hb.1
    · exact ha.1
  · show (if h_g a < h_g b then h_g b else h_g a) ∈ V
    split
    · exact hb.2
    · exact ha.2
theorem mg_cov {f tot v : Int32} : ∀ (r : List Hp) (a : Int32) (o : Hp), (cov o v ∨ ∃ x ∈ r, cov x v) → ∃ x ∈ mg f tot a o r, cov x v
  | [], _, o, h => by
    rcases h with h | ⟨x, hx, _⟩
    · exact ⟨o, List.mem_cons_self, h⟩
    · cases hx
  | y :: r, a, o, h => by
    unfold mg
    split
    · refine mg_cov r a (unI o y) ?_
      rcases h with h | ⟨x, hx, hc⟩
      · exact Or.inl (cov_uni (Or.inl h))
      · rcases List.mem_cons.mp hx with q | q
        · rw [q] at hc; exact Or.inl (cov_uni (Or.inr hc))
        · exact Or.inr ⟨x, q, hc⟩
    · rcases h with h | ⟨x, hx, hc⟩
      · exact ⟨o, List.mem_cons_self, h⟩
      · have : ∃ z ∈ mg f tot (a + h_w o) y r, cov z v := mg_cov r _ y (by
          rcases List.mem_cons.mp hx with q | q
          · rw [q] at hc; exact Or.inl hc
          · exact Or.inr ⟨x, q, hc⟩)
        obtain ⟨z, h1, h2⟩ := this
        exact ⟨z, List.mem_cons_of_mem _ h1, h2⟩
theorem mg_eds {f tot : Int32} {V : List Int32} : ∀ (r : List Hp) (a : Int32) (o : Hp), eds V o → (∀ x ∈ r, eds V x) → ∀ x ∈ mg f tot a o r, eds V x
  | [], _, o, ho, _, x, hx => by
    rw [mg, List.mem_singleton] at hx
    rw [hx]; exact ho
  | y :: r, a, o, ho, hr, x, hx => by
    have hy := hr y List.mem_cons_self
    have hr2 : ∀ x ∈ r, eds V x := fun z hz => hr z (List.mem_cons_of_mem _ hz)
    unfold mg at hx
    split at hx
    · exact mg_eds r a _ (eds_uni ho hy) hr2 x hx
    · rcases List.mem_cons.mp hx with q | q
      · rw [q]; exact ho
      · exact mg_eds r _ y hy hr2 x q
theorem packL_cov {f v : Int32} {A : List Hp} (h : ∃ x ∈ A, cov x v) : ∃ x ∈ packL f A, cov x v := by
  obtain ⟨x, hx, hc⟩ := h
  have hx2 := order_perm.mem_iff.mpr hx
  unfold packL
  revert hx2
  generalize order A = B
  intro hx2
  cases B with
  | nil => cases hx2
  | cons y r =>
    refine mg_cov r 0 y ?_
    rcases List.mem_cons.mp hx2 with q | q
    · rw [q] at hc; exact Or.inl hc
    · exact Or.inr ⟨x, q, hc⟩
theorem packL_eds {f : Int32} {A : List Hp} {V : List Int32} (h : ∀ x ∈ A, eds V x) : ∀ x ∈ packL f A, eds V x := by
  have ho : ∀ x ∈ order A, eds V x := fun x hx => h x (order_perm.mem_iff.mp hx)
  unfold packL
  revert ho
  generalize order A = B
  intro ho
  cases B with
  | nil => exact fun x hx => (by cases hx)
  | cons y r => exact mg_eds r 0 y (ho y List.mem_cons_self) (fun z hz => ho z (List.mem_cons_of_mem _ hz))

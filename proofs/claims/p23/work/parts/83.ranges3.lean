theorem imin_le {l : List Int32} : ∀ (n i : Nat), i < n → imin l n ≤ l.getD i 0
  | n + 1, i, h => by
    show (if l.getD n 0 < imin l n then l.getD n 0 else imin l n) ≤ l.getD i 0
    by_cases q : l.getD n 0 < imin l n
    · rw [if_pos q]
      by_cases e : i = n
      · rw [e]; exact Int32.le_rfl
      · exact Int32.le_trans (Int32.le_of_lt q) (imin_le n i (by omega))
    · rw [if_neg q]
      by_cases e : i = n
      · rw [e]; exact Int32.not_lt.mp q
      · exact imin_le n i (by omega)
theorem imax_ge {l : List Int32} : ∀ (n i : Nat), i < n → l.getD i 0 ≤ imax l n
  | n + 1, i, h => by
    show l.getD i 0 ≤ (if imax l n < l.getD n 0 then l.getD n 0 else imax l n)
    by_cases q : imax l n < l.getD n 0
    · rw [if_pos q]
      by_cases e : i = n
      · rw [e]; exact Int32.le_rfl
      · exact Int32.le_trans (imax_ge n i (by omega)) (Int32.le_of_lt q)
    · rw [if_neg q]
      by_cases e : i = n
      · rw [e]; exact Int32.not_lt.mp q
      · exact imax_ge n i (by omega)
theorem mem_le {l : List Int32} {x : Int32} (h : x ∈ l) : imin l l.length ≤ x ∧ x ≤ imax l l.length := by
  obtain ⟨i, hi, e⟩ := List.getElem_of_mem h
  have e2 : l.getD i 0 = x := by rw [List.getD_eq_getElem?_getD, List.getElem?_eq_getElem hi, e]; rfl
  rw [← e2]
  exact ⟨imin_le _ _ hi, imax_ge _ _ hi⟩
theorem imin_in {l : List Int32} : ∀ n, n ≤ l.length → imin l n ∈ l ∨ imin l n = 2147483647
  | 0, _ => Or.inr rfl
  | n + 1, h => by
    show (if l.getD n 0 < imin l n then l.getD n 0 else imin l n) ∈ l ∨ (if l.getD n 0 < imin l n then l.getD n 0 else imin l n) = _
    by_cases q : l.getD n 0 < imin l n
    · rw [if_pos q]; exact Or.inl (mem_getD (by omega))
    · rw [if_neg q]; exact imin_in n (by omega)
theorem imax_in {l : List Int32} : ∀ n, n ≤ l.length → imax l n ∈ l ∨ imax l n = -2147483648
  | 0, _ => Or.inr rfl
  | n + 1, h => by
    show (if imax l n < l.getD n 0 then l.getD n 0 else imax l n) ∈ l ∨ (if imax l n < l.getD n 0 then l.getD n 0 else imax l n) = _
    by_cases q : imax l n < l.getD n 0
    · rw [if_pos q]; exact Or.inl (mem_getD (by omega))
    · rw [if_neg q]; exact imax_in n (by omega)
theorem map_len_min {A : List Hp} {f : Hp → Int32} {x : Hp} (h : x ∈ A) : imin (A.map f) A.length ≤ f x ∧ f x ≤ imax (A.map f) A.length := by
  have := mem_le (List.mem_map_of_mem (f := f) h)
  rw [List.length_map] at this
  exact this
theorem dLeast_le {D : Dg} (h : RD D) {v : Int32} (hv : v ∈ D.2.2.1) : dLeast D.1 D.2.1 ≤ v ∧ v ≤ dGreatest D.1 D.2.1 := by
  have key : (imin (D.1.map h_l) D.1.length ≤ v ∧ v ≤ imax (D.1.map h_g) D.1.length) ∨ (imin D.2.1 D.2.1.length ≤ v ∧ v ≤ imax D.2.1 D.2.1.length) := by
    rcases h.2.2 v hv with ⟨x, hx, hc⟩ | hb
    · exact Or.inl ⟨Int32.le_trans (map_len_min (f := h_l) hx).1 hc.1, Int32.le_trans hc.2 (map_len_min (f := h_g) hx).2⟩
    · exact Or.inr (mem_le hb)
  unfold dLeast dGreatest
  refine ⟨?_, ?_⟩
  · by_cases q : imin D.2.1 D.2.1.length < imin (D.1.map h_l) D.1.length
    · rw [if_pos q]
      rcases key with k | k
      · exact Int32.le_trans (Int32.le_of_lt q) k.1
      · exact k.1
    · rw [if_neg q]
      rcases key with k | k
      · exact k.1
      · exact Int32.le_trans (Int32.not_lt.mp q) k.1
  · by_cases q : imax (D.1.map h_g) D.1.length < imax D.2.1 D.2.1.length
    · rw [if_pos q]
      rcases key with k | k
      · exact Int32.le_trans k.2 (Int32.le_of_lt q)
      · exact k.2
    · rw [if_neg q]
      rcases key with k | k
      · exact k.2
      · exact Int32.le_trans k.2 (Int32.not_lt.mp q)

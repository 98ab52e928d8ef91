theorem dLeast_in {D : Dg} (h : RD D) : (dLeast D.1 D.2.1 ∈ D.2.2.1 ∨ dLeast D.1 D.2.1 = 2147483647) ∧ (dGreatest D.1 D.2.1 ∈ D.2.2.1 ∨ dGreatest D.1 D.2.1 = -2147483648) := by
  have a1 : imin (D.1.map h_l) D.1.length ∈ D.2.2.1 ∨ imin (D.1.map h_l) D.1.length = 2147483647 := by
    rcases imin_in (l := D.1.map h_l) D.1.length (by rw [List.length_map]; exact Nat.le_refl _) with q | q
    · obtain ⟨x, hx, e⟩ := List.mem_map.mp q
      rw [← e]; exact Or.inl (h.1 x hx).1
    · exact Or.inr q
  have a2 : imax (D.1.map h_g) D.1.length ∈ D.2.2.1 ∨ imax (D.1.map h_g) D.1.length = -2147483648 := by
    rcases imax_in (l := D.1.map h_g) D.1.length (by rw [List.length_map]; exact Nat.le_refl _) with q | q
    · obtain ⟨x, hx, e⟩ := List.mem_map.mp q
      rw [← e]; exact Or.inl (h.1 x hx).2
    · exact Or.inr q
  have b1 : imin D.2.1 D.2.1.length ∈ D.2.2.1 ∨ imin D.2.1 D.2.1.length = 2147483647 := by
    rcases imin_in (l := D.2.1) D.2.1.length (Nat.le_refl _) with q | q
    · exact Or.inl (h.2.1 _ q)
    · exact Or.inr q
  have b2 : imax D.2.1 D.2.1.length ∈ D.2.2.1 ∨ imax D.2.1 D.2.1.length = -2147483648 := by
    rcases imax_in (l := D.2.1) D.2.1.length (Nat.le_refl _) with q | q
    · exact Or.inl (h.2.1 _ q)
    · exact Or.inr q
  unfold dLeast dGreatest
  refine ⟨?_, ?_⟩
  · split
    · exact b1
    · exact a1
  · split
    · exact b2
    · exact a2
theorem Up_first {l : List Int32} (hu : Up l) {v : Int32} (hv : v ∈ l) : l.getD 0 0 ≤ v := by
  cases l with
  | nil => cases hv
  | cons x r =>
    rcases List.mem_cons.mp hv with q | q
    · rw [q]; exact Int32.le_rfl
    · exact (List.pairwise_cons.mp hu).1 v q
theorem dLeast_srt {D : Dg} (h : RD D) (hV : ∀ v ∈ D.2.2.1, Vn v) (h0 : 0 < D.2.2.1.length) : dLeast D.1 D.2.1 = (srt D.2.2.1).getD 0 0 := by
  obtain ⟨hu, hp⟩ := srt_Up (V := D.2.2.1)
  have hm : (srt D.2.2.1).getD 0 0 ∈ D.2.2.1 := hp.mem_iff.mp (mem_getD (by rw [srt_len]; exact h0))
  have h1 := (dLeast_le h hm).1
  rcases (dLeast_in h).1 with q | q
  · exact Int32.le_antisymm h1 (Up_first hu (hp.mem_iff.mpr q))
  · obtain ⟨n, hn, e⟩ := hV _ hm
    rw [q, e] at h1
    have := Int32.le_iff_toInt_le.mp h1
    rw [nI_toInt (by omega), show (2147483647 : Int32).toInt = 2147483647 from by decide +kernel] at this
    omega

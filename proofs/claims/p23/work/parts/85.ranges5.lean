theorem Up_last : ∀ {l : List Int32}, Up l → ∀ {v : Int32}, v ∈ l → v ≤ l.getD (l.length - 1) 0 := by
  intro l hu v hv
  rcases snoc_cases l with e | ⟨l', y, e⟩
  · rw [e] at hv; cases hv
  · rw [e] at hu hv ⊢
    have e2 : (l' ++ [y]).length - 1 = l'.length := by rw [List.length_append, List.length_singleton, Nat.add_sub_cancel]
    rw [e2, getD_snoc_l]
    obtain ⟨h1, h2, h3⟩ := List.pairwise_append.mp hu
    rcases List.mem_append.mp hv with q | q
    · exact h3 v q y List.mem_cons_self
    · rw [List.mem_singleton.mp q]; exact Int32.le_rfl
theorem dGreatest_srt {D : Dg} (h : RD D) (hV : ∀ v ∈ D.2.2.1, Vn v) (h0 : 0 < D.2.2.1.length) : dGreatest D.1 D.2.1 = (srt D.2.2.1).getD (D.2.2.1.length - 1) 0 := by
  obtain ⟨hu, hp⟩ := srt_Up (V := D.2.2.1)
  have hl : (srt D.2.2.1).length = D.2.2.1.length := srt_len
  have hm : (srt D.2.2.1).getD (D.2.2.1.length - 1) 0 ∈ D.2.2.1 := hp.mem_iff.mp (mem_getD (by rw [hl]; omega))
  have h1 := (dLeast_le h hm).2
  rcases (dLeast_in h).2 with q | q
  · have h2 := Up_last hu (hp.mem_iff.mpr q)
    rw [hl] at h2
    exact Int32.le_antisymm h2 h1
  · obtain ⟨n, hn, e⟩ := hV _ hm
    rw [q, e] at h1
    have := Int32.le_iff_toInt_le.mp h1
    rw [nI_toInt (by omega), show (-2147483648 : Int32).toInt = -2147483648 from by decide +kernel] at this
    omega
theorem eq_dig {X : SS} {i : Nat} {w : Int32} (hi : i < 3) (hX : GX X) (hR : RD (X.2.2 i)) (hS : DS (X.2.2 i)) : cDig (clX X) i w = mDig X (nI i) w := by
  have d : ¬ ¬ (nI 0 ≤ nI i ∧ nI i ≤ nI 2) := fun z => z ⟨(nI_leI (by omega) (by omega)).mpr (Nat.zero_le _), (nI_leI (by omega) (by omega)).mpr (by omega)⟩
  obtain ⟨hL, hA, hB, hV⟩ := hX.1 i hi
  unfold cDig mDig
  rw [if_neg d, nI_clamp (show i < 2 ^ 31 by omega)]
  by_cases c1 : nI 0 ≤ w ∧ w ≤ nI 8
  · have d1 : ¬ ¬ (nI 0 ≤ w ∧ w ≤ nI 8) := fun z => z c1
    rw [if_neg d1, if_neg d1]
    obtain ⟨n, -, hn, rfl⟩ := rng_nat (a := 0) (b := 8) (by omega) (by omega) c1
    rw [nI_clamp (show n < 2 ^ 31 by omega)]
    have ev : ((clX X).2.2 i).2.2.1.length = (X.2.2 i).2.2.1.length := cl8_V
    rcases (show n = 0 ∨ n = 1 ∨ n = 2 ∨ n = 3 ∨ n = 4 ∨ n = 5 ∨ n = 6 ∨ n = 7 ∨ n = 8 by omega) with rfl | rfl | rfl | rfl | rfl | rfl | rfl | rfl | rfl
    · rw [dOf, mdOf, ev]
    · rfl
    · rfl
    · rw [dOf, mdOf, ev]
      by_cases q : (X.2.2 i).2.2.1.length = 0
      · rw [if_pos q, if_pos q]
      · rw [if_neg q, if_neg q]
        exact dLeast_srt hR hV (by omega)
    · rw [dOf, mdOf, ev]
      by_cases q : (X.2.2 i).2.2.1.length = 0
      · rw [if_pos q, if_pos q]
      · rw [if_neg q, if_neg q]
        exact dGreatest_srt hR hV (by omega)
    · exact dSum_eq hS
    · rfl
    · rw [dOf, mdOf]
      show (if (X.2.2 i).1.length = 0 then cNF else imax ((X.2.2 i).1.map h_w) (X.2.2 i).1.length) = _
      rcases Nat.eq_zero_or_pos (X.2.2 i).1.length with q | q
      · rw [if_pos q, q]; rfl
      · rw [if_neg (by omega)]
        have := gw_imax hA ((X.2.2 i).1.length - 1) (by omega)
        rw [show (X.2.2 i).1.length - 1 + 1 = (X.2.2 i).1.length by omega] at this
        exact this.symm
    · rfl
  · rw [if_pos c1, if_pos c1]

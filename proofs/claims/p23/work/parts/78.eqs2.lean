theorem whyQ_in {X : SS} {i m : Nat} {q : Int32} (hi : i < 3) : whyQ X (nI i) q m = if ¬ (nI 0 ≤ q ∧ q ≤ nI m) then cINV else if (X.2.2 i).2.2.1.length = 0 then cNP else 0 := by
  have d : ¬ ¬ (nI 0 ≤ nI i ∧ nI i ≤ nI 2) := fun z => z ⟨(nI_leI (by omega) (by omega)).mpr (Nat.zero_le _), (nI_leI (by omega) (by omega)).mpr (by omega)⟩
  unfold whyQ
  rw [if_neg d, nI_clamp (by omega)]
theorem eq_tru {X : SS} {i : Nat} {q : Int32} (hi : i < 3) : cTru (clX X) i q = mTru X (nI i) q := by
  have e : (clX X).2.2 i = cl8 (X.2.2 i) := rfl
  unfold cTru mTru
  rw [whyQ_in hi, e, cl8_V, nI_clamp (show i < 2 ^ 31 by omega)]
  by_cases c1 : ¬ (nI 0 ≤ q ∧ q ≤ nI 1000)
  · rw [if_pos c1, if_pos c1, if_pos (by decide)]
  · rw [if_neg c1, if_neg c1]
    by_cases c2 : (X.2.2 i).2.2.1.length = 0
    · rw [if_pos c2, if_pos c2, if_pos (by decide)]
    · rw [if_neg c2, if_neg c2, if_neg (by decide)]
      rfl
theorem eq_wid2 {X : SS} {i : Nat} {q : Int32} (hi : i < 3) : cWid (clX X) i q = mWid X (nI i) q := by
  rw [eq_wid]
  unfold cWid mWid
  rw [whyQ_in hi, nI_clamp (show i < 2 ^ 31 by omega)]
  by_cases c1 : ¬ (nI 0 ≤ q ∧ q ≤ nI 1000)
  · rw [if_pos c1, if_pos c1, if_pos (by decide)]
  · rw [if_neg c1, if_neg c1]
    by_cases c2 : (X.2.2 i).2.2.1.length = 0
    · rw [if_pos c2, if_pos c2, if_pos (by decide)]
    · rw [if_neg c2, if_neg c2, if_neg (by decide)]
theorem gw_imax {A : List Hp} (h : ∀ x ∈ A, GH x) : ∀ n, n < A.length → gwS A (n + 1) = imax (A.map h_w) (n + 1)
  | 0, hn => by
    obtain ⟨w1, w2, w3⟩ := wN_GH (h _ (mem_getD (d := hd0) hn))
    have e : (A.map h_w).getD 0 0 = h_w (A.getD 0 hd0) := getD_map h_w hd0 A 0
    show (if cNF < h_w (A.getD 0 hd0) then h_w (A.getD 0 hd0) else cNF) = (if (-2147483648) < (A.map h_w).getD 0 0 then (A.map h_w).getD 0 0 else (-2147483648))
    have p := nI_pos' (show wN (A.getD 0 hd0) < 2 ^ 31 by omega)
    rw [e, w1, if_pos (Int32.lt_of_lt_of_le (by decide) p), if_pos (Int32.lt_of_lt_of_le (by decide) p)]
  | n + 1, hn => by
    have ih := gw_imax h n (by omega)
    have e : (A.map h_w).getD (n + 1) 0 = h_w (A.getD (n + 1) hd0) := getD_map h_w hd0 A (n + 1)
    rw [gwS, imax, e, ih]
theorem srt_units {V : List Int32} : (srt V).length = V.length := srt_len

def mHo (X : SS) (x y w : Int32) : Int32 := if ¬ (nI 0 ≤ x ∧ x ≤ nI 2) then cINV else cHo X x.toNatClampNeg y w
theorem hoV_4 {f : Nat → Int32} {A : List Hp} {d n m : Nat} (h : hpS f d n = A.getD n hd0) (hm : m < 4) : f (2 + 1024 * d + (4 + 4 * n + m)) = hoV A n m := by
  rcases (show m = 0 ∨ m = 1 ∨ m = 2 ∨ m = 3 by omega) with rfl | rfl | rfl | rfl
  · exact congrArg (fun q : Hp => q.1) h
  · exact congrArg (fun q : Hp => q.2.1) h
  · exact congrArg (fun q : Hp => q.2.2.1) h
  · exact congrArg (fun q : Hp => q.2.2.2) h
theorem hoV_d {A : List Hp} {n : Nat} (h : GH (A.getD n hd0)) : nI (sN (A.getD n hd0) / wN (A.getD n hd0)) = hoV A n 4 := by
  obtain ⟨w1, w2, w3⟩ := wN_GH h
  obtain ⟨s1, s2⟩ := sN_GH h
  show _ = if 0 < h_w (A.getD n hd0) then h_s (A.getD n hd0) / h_w (A.getD n hd0) else 0
  rw [w1, s1, if_pos (show (0 : Int32) < nI (wN (A.getD n hd0)) from (nI_ltI (a := 0) (by omega) (by omega)).mpr (by omega)), pk_div (by omega) (by omega) (by omega)]

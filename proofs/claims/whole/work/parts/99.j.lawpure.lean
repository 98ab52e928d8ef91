/-! the class's answer and the reference's, method by method -/
theorem rngx (x : Int32) : (∃ i, i < 3 ∧ x = nI i) ∨ (x.toInt < 0 ∨ 2 < x.toInt) := by
  by_cases h : nI 0 ≤ x ∧ x ≤ nI 2
  · obtain ⟨i, -, hi, e⟩ := rng_nat (a := 0) (b := 2) (by omega) (by omega) h
    exact Or.inl ⟨i, by omega, e⟩
  · right
    rcases Int.lt_or_le x.toInt 0 with q | q
    · exact Or.inl q
    · rcases Int.lt_or_le 2 x.toInt with q2 | q2
      · exact Or.inr q2
      · exact absurd ⟨Int32.le_iff_toInt_le.mpr (by rw [nI_toInt (by omega)]; omega), Int32.le_iff_toInt_le.mpr (by rw [nI_toInt (by omega)]; omega)⟩ h
theorem out_n {x : Int32} (h : x.toInt < 0 ∨ 2 < x.toInt) : ¬ (nI 0 ≤ x ∧ x ≤ nI 2) := by
  rintro ⟨a, b⟩
  have a2 := Int32.le_iff_toInt_le.mp a
  have b2 := Int32.le_iff_toInt_le.mp b
  rw [nI_toInt (by omega)] at a2 b2
  omega
theorem in_n {i : Nat} (h : i < 3) : ¬ ¬ (nI 0 ≤ nI i ∧ nI i ≤ nI 2) := fun z => z ⟨(nI_leI (by omega) (by omega)).mpr (Nat.zero_le _), (nI_leI (by omega) (by omega)).mpr (by omega)⟩
theorem whyQ_out {X : SS} {x q : Int32} {m : Nat} (h : x.toInt < 0 ∨ 2 < x.toInt) : whyQ X x q m = cINV := if_pos (out_n h)
theorem cINV_neg : (cINV : Int32) < 0 := by decide
variable {X : SS} {hh : List SS} {t : List Int32} {i j : Nat} {x y z : Int32}
theorem i_add (hF : FX X) (hi : i < 3) : cAdd (clX X) (hh.map clX) i y z = cl3 (mAdd X hh (nI i) y z) := by
  rw [mAdd, if_neg (in_n hi), nI_clamp (by omega)]; exact eq_add hF.1 hi
theorem o_add (h : x.toInt < 0 ∨ 2 < x.toInt) : mAdd X hh x y z = (cINV, X, hh) := if_pos (out_n h)
theorem i_pack (hi : i < 3) : cPack (clX X) (hh.map clX) i = cl3 (mPack X hh (nI i)) := by
  rw [mPack, if_neg (in_n hi), nI_clamp (by omega)]; exact eq_pack
theorem o_pack (h : x.toInt < 0 ∨ 2 < x.toInt) : mPack X hh x = (cINV, X, hh) := if_pos (out_n h)
theorem i_clear (hi : i < 3) : cClear (clX X) (hh.map clX) i = cl3 (mClear X hh (nI i)) := by
  rw [mClear, if_neg (in_n hi), nI_clamp (by omega)]; exact eq_clear
theorem o_clear (h : x.toInt < 0 ∨ 2 < x.toInt) : mClear X hh x = (cINV, X, hh) := if_pos (out_n h)
theorem i_join (hF : FX X) (hi : i < 3) (hj : j < 3) : cJoin (clX X) (hh.map clX) i j = cl3 (mJoin X hh (nI i) (nI j)) := by
  rw [mJoin, if_neg (in_n hi), if_neg (in_n hj), nI_clamp (by omega), nI_clamp (by omega)]; exact eq_join hF.1 hi hj
theorem o_join1 (h : x.toInt < 0 ∨ 2 < x.toInt) : mJoin X hh x y = (cINV, X, hh) := if_pos (out_n h)
theorem o_join2 (hi : i < 3) (h : y.toInt < 0 ∨ 2 < y.toInt) : mJoin X hh (nI i) y = (cINV, X, hh) := by rw [mJoin, if_neg (in_n hi), if_pos (out_n h)]
theorem i_bufferOf (hi : i < 3) : cBuf (clX X) i y = mBuf X (nI i) y := by
  rw [mBuf, if_neg (in_n hi), nI_clamp (by omega)]; exact eq_buf
theorem o_bufferOf (h : x.toInt < 0 ∨ 2 < x.toInt) : mBuf X x y = cINV := if_pos (out_n h)
theorem i_heapOf (hi : i < 3) : cHo (clX X) i y z = mHo X (nI i) y z := by
  rw [mHo, if_neg (in_n hi), nI_clamp (by omega)]; exact eq_heap
theorem o_heapOf (h : x.toInt < 0 ∨ 2 < x.toInt) : mHo X x y z = cINV := if_pos (out_n h)
theorem i_digestOf (hF : FX X) (hi : i < 3) : cDig (clX X) i y = mDig X (nI i) y := eq_dig hi hF.1 (hF.2 i hi).1 (hF.2 i hi).2
theorem o_digestOf (h : x.toInt < 0 ∨ 2 < x.toInt) : mDig X x y = cINV := by
  unfold mDig
  exact if_pos (out_n h)
theorem i_quantile (hi : i < 3) : cQua (clX X) i y = mQua X (nI i) y := eq_qua hi
theorem o_quantile (h : x.toInt < 0 ∨ 2 < x.toInt) : mQua X x y = cINV := by rw [mQua, whyQ_out h, if_pos cINV_neg]
theorem i_truth (hi : i < 3) : cTru (clX X) i y = mTru X (nI i) y := eq_tru hi
theorem o_truth (h : x.toInt < 0 ∨ 2 < x.toInt) : mTru X x y = cINV := by rw [mTru, whyQ_out h, if_pos cINV_neg]
theorem i_worst (hi : i < 3) : cWor (clX X) i y = mWor X (nI i) y := eq_wor hi
theorem o_worst (h : x.toInt < 0 ∨ 2 < x.toInt) : mWor X x y = cINV := by rw [mWor, whyQ_out h, if_pos cINV_neg]
theorem i_rank (hF : FX X) (hi : i < 3) : cRan (clX X) i y = mRan X (nI i) y := eq_ran hi hF
theorem o_rank (h : x.toInt < 0 ∨ 2 < x.toInt) : mRan X x y = cINV := by rw [mRan, whyQ_out h, if_pos cINV_neg]
theorem i_width (hi : i < 3) : cWid (clX X) i y = mWid X (nI i) y := eq_wid2 hi
theorem o_width (h : x.toInt < 0 ∨ 2 < x.toInt) : mWid X x y = cINV := by rw [mWid, whyQ_out h, if_pos cINV_neg]
theorem i_settingFor (hi : i < 3) : cSfo (clX X) i y = mSfo X (nI i) y := eq_sfo hi
theorem o_settingFor (h : x.toInt < 0 ∨ 2 < x.toInt) : mSfo X x y = cINV := by
  unfold mSfo
  exact if_pos (out_n h)
theorem i_count0 (hF : FX X) : dW ((clX X).2.2 0).1 ((clX X).2.2 0).2.1 + dW ((clX X).2.2 1).1 ((clX X).2.2 1).2.1 + dW ((clX X).2.2 2).1 ((clX X).2.2 2).2.1 = nI ((X.2.2 0).2.2.1.length + (X.2.2 1).2.2.1.length + (X.2.2 2).2.2.1.length) := by
  have e : ∀ i, dW ((clX X).2.2 i).1 ((clX X).2.2 i).2.1 = dW (X.2.2 i).1 (X.2.2 i).2.1 := fun i => rfl
  rw [e, e, e, (hF.1.1 0 (by omega)).1.2.2.2, (hF.1.1 1 (by omega)).1.2.2.2, (hF.1.1 2 (by omega)).1.2.2.2, nI_add, nI_add]
theorem cntx (w : Int32) : w = nI 0 ∨ w = nI 1 ∨ w = nI 2 ∨ w = nI 3 ∨ w = nI 20 ∨ w = nI 21 ∨ (w ≠ 0 ∧ w ≠ 1 ∧ w ≠ 2 ∧ w ≠ 3 ∧ w ≠ 20 ∧ w ≠ 21) := by
  by_cases h0 : w = 0
  · exact Or.inl h0
  · by_cases h1 : w = 1
    · exact Or.inr (Or.inl h1)
    · by_cases h2 : w = 2
      · exact Or.inr (Or.inr (Or.inl h2))
      · by_cases h3 : w = 3
        · exact Or.inr (Or.inr (Or.inr (Or.inl h3)))
        · by_cases h4 : w = 20
          · exact Or.inr (Or.inr (Or.inr (Or.inr (Or.inl h4))))
          · by_cases h5 : w = 21
            · exact Or.inr (Or.inr (Or.inr (Or.inr (Or.inr (Or.inl h5)))))
            · exact Or.inr (Or.inr (Or.inr (Or.inr (Or.inr (Or.inr ⟨h0, h1, h2, h3, h4, h5⟩)))))

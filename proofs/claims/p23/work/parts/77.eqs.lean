/-! the class answers as the model does: what changes the state -/
def clX (X : SS) : SS := (X.1, X.2.1, fun i => cl8 (X.2.2 i))
def cl3 (q : Int32 × SS × List SS) : Int32 × SS × List SS := (q.1, clX q.2.1, q.2.2.map clX)
theorem clX_setD {X : SS} {i : Nat} {D : Dg} : setD (clX X) i (cl8 D) = clX (setD X i D) := by
  unfold setD clX
  congr 2
  funext j
  show (if j = i then cl8 D else cl8 (X.2.2 j)) = cl8 (if j = i then D else X.2.2 j)
  by_cases q : j = i
  · rw [if_pos q, if_pos q]
  · rw [if_neg q, if_neg q]
theorem clX_rec {X : SS} {hh : List SS} : recH (hh.map clX) (clX X) = (recH hh X).map clX := by
  unfold recH
  rw [List.length_map, List.map_append]
  by_cases q : hh.length < 4
  · rw [if_pos q, if_pos q]; rfl
  · rw [if_neg q, if_neg q, List.map_tail]; rfl
theorem cl8_V {D : Dg} : (cl8 D).2.2.1.length = D.2.2.1.length := srt_len
theorem LI_cl {D : Dg} (h : LI D) : LI (cl8 D) := by
  obtain ⟨a, b, c, d⟩ := h
  exact ⟨by rw [cl8_V]; exact a, by rw [cl8_V]; exact b, c, by rw [cl8_V]; exact d⟩
theorem XI_cl {X : SS} (h : GX X) : XI (clX X) := ⟨fun i hi => LI_cl (h.1 i hi).1, h.2⟩
theorem eq_add {X : SS} {hh : List SS} {i : Nat} {v tm : Int32} (hX : GX X) (hi : i < 3) : cAdd (clX X) (hh.map clX) i v tm = cl3 (mAdd1 X hh i v tm) := by
  have e : (clX X).2.2 i = cl8 (X.2.2 i) := rfl
  unfold cAdd mAdd1
  rw [e, cl8_V]
  by_cases c1 : nI 0 ≤ v ∧ v ≤ nI 9999
  · have d1 : ¬ ¬ (nI 0 ≤ v ∧ v ≤ nI 9999) := fun z => z c1
    rw [if_neg d1, if_neg d1]
    by_cases c2 : nI 1 ≤ tm ∧ tm ≤ nI 20
    · have d2 : ¬ ¬ (nI 1 ≤ tm ∧ tm ≤ nI 20) := fun z => z c2
      rw [if_neg d2, if_neg d2]
      by_cases c3 : nI 200 < nI (X.2.2 i).2.2.1.length + tm
      · rw [if_pos c3, if_pos c3]; rfl
      · rw [if_neg c3, if_neg c3]
        have hs : (clX X).1 = X.1 ∧ (clX X).2.1 = X.2.1 := ⟨rfl, rfl⟩
        obtain ⟨n, n1, n2, rfl⟩ := rng_nat (a := 1) (b := 20) (by omega) (by omega) c2
        have hl := (hX.1 i hi).1.2.1
        rw [nI_add] at c3
        have h2 := (nI_leI (by omega) (by omega)).mp (Int32.not_lt.mp c3)
        obtain ⟨v8, -, w8, e8⟩ := rng_nat (a := 0) (b := 9999) (by omega) (by omega) c1
        obtain ⟨g1, g2⟩ := GD_rcvMN (s0 := X.1) (hX.1 i hi) hX.2 (⟨v8, w8, e8⟩ : Vn v) n h2
        rw [hs.1, hs.2, nI_clamp (show n < 2 ^ 31 by omega), cl8_rcvN, clX_setD, clX_rec]
        show (dW (rcvMN X.1 X.2.1 (X.2.2 i) v n).1 (rcvMN X.1 X.2.1 (X.2.2 i) v n).2.1, _, _) = (_, _, _)
        rw [g1.1.2.2.2, g2]
    · rw [if_pos c2, if_pos c2]; rfl
  · rw [if_pos c1, if_pos c1]; rfl
theorem trL_cl {X : SS} {i : Nat} : trL (clX X) i = trL X i := rfl
theorem eq_pack {X : SS} {hh : List SS} {i : Nat} : cPack (clX X) (hh.map clX) i = cl3 (cPack X hh i) := by
  unfold cPack cl3
  show (_, setD (clX X) i (cl8 (pkD X.1 (X.2.2 i))), recH (hh.map clX) (clX X)) = _
  rw [clX_setD, clX_rec]
  rfl
theorem eq_clear {X : SS} {hh : List SS} {i : Nat} : cClear (clX X) (hh.map clX) i = cl3 (cClear X hh i) := by
  unfold cClear cl3
  show (nI (cl8 (X.2.2 i)).2.2.1.length, setD (clX X) i (cl8 ([], [], [], (X.2.2 i).2.2.2)), recH (hh.map clX) (clX X)) = _
  rw [clX_setD, clX_rec, cl8_V]
theorem clX_set {X : SS} {n : Nat} {v : Int32} : setS (clX X) n v = clX (setS X n v) := by
  unfold setS
  by_cases q : n = 0
  · rw [if_pos q, if_pos q]; rfl
  · rw [if_neg q, if_neg q]; rfl
theorem eq_set {X : SS} {hh : List SS} {w v : Int32} : cSet (clX X) (hh.map clX) w v = cl3 (cSet X hh w v) := by
  unfold cSet
  generalize (if w = 0 then nI 60 else nI 20) = b
  by_cases c1 : ¬ (nI 0 ≤ w ∧ w ≤ nI 1)
  · rw [if_pos c1, if_pos c1]; rfl
  · rw [if_neg c1, if_neg c1]
    by_cases c2 : ¬ (nI 1 ≤ v ∧ v ≤ b)
    · rw [if_pos c2, if_pos c2]; rfl
    · rw [if_neg c2, if_neg c2]
      unfold cl3
      rw [clX_set, clX_rec]
      rfl
theorem eq_join {X : SS} {hh : List SS} {i j : Nat} (hX : GX X) (hi : i < 3) (hj : j < 3) : cJoin (clX X) (hh.map clX) i j = cl3 (mJoin1 X hh i j) := by
  have ei : (clX X).2.2 i = cl8 (X.2.2 i) := rfl
  have ej : (clX X).2.2 j = cl8 (X.2.2 j) := rfl
  have hs : (clX X).1 = X.1 := rfl
  unfold cJoin mJoin1
  rw [ei, ej, cl8_V, cl8_V, hs]
  by_cases c1 : i = j
  · rw [if_pos c1, if_pos c1]; rfl
  · rw [if_neg c1, if_neg c1]
    by_cases c2 : 200 < (X.2.2 i).2.2.1.length + (X.2.2 j).2.2.1.length
    · rw [if_pos c2, if_pos c2]; rfl
    · rw [if_neg c2, if_neg c2]
      have hL := LI_to (f := X.1) (hX.1 j hj).1 (hX.1 i hi).1 (by omega)
      have h4 := hL.2.2.2
      have e9 : (toD X.1 (X.2.2 i) (X.2.2 j)).2.2.1.length = (X.2.2 j).2.2.1.length + (X.2.2 i).2.2.1.length := foldl_ins_len _ _
      rw [e9] at h4
      rw [cl8_to, cl8_pk, clX_setD, clX_setD, clX_rec]
      unfold cl3
      show (dW (toD X.1 (X.2.2 i) (X.2.2 j)).1 [], _, _) = _
      rw [show dW (toD X.1 (X.2.2 i) (X.2.2 j)).1 [] = nI ((X.2.2 j).2.2.1.length + (X.2.2 i).2.2.1.length) from h4]
theorem eq_buf {X : SS} {i : Nat} {x : Int32} : cBuf (clX X) i x = cBuf X i x := rfl
theorem eq_heap {X : SS} {i : Nat} {x w : Int32} : cHo (clX X) i x w = cHo X i x w := rfl
theorem eq_wid {X : SS} {i : Nat} {q : Int32} : cWid (clX X) i q = cWid X i q := by
  unfold cWid
  show (if _ then _ else if (cl8 (X.2.2 i)).2.2.1.length = 0 then _ else wAt (nI (_ * ((cl8 (X.2.2 i)).2.2.1.length - 1) / 1000)) _ _) = _
  rw [cl8_V]
  rfl

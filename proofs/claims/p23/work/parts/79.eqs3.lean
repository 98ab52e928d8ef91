theorem oSort_id {A : List Hp} (h : ∀ i, i + 1 < A.length → ¬ gtH (A.getD i hd0) (A.getD (i + 1) hd0) = true) : ∀ n, n < A.length → oSort A n = A
  | 0, _ => rfl
  | n + 1, hn => by
    rw [oSort, oSort_id h n (by omega), sift, if_neg (h n hn)]
theorem Up_adj : ∀ {l : List Int32} {i : Nat}, Up l → i + 1 < l.length → l.getD i 0 ≤ l.getD (i + 1) 0
  | [], _, _, h => absurd h (Nat.not_lt_zero _)
  | [_], i, _, h => absurd h (by show ¬ i + 1 < 1; omega)
  | x :: y :: l, 0, hu, _ => (List.pairwise_cons.mp hu).1 y List.mem_cons_self
  | x :: y :: l, i + 1, hu, h => Up_adj (l := y :: l) (i := i) (List.pairwise_cons.mp hu).2 (Nat.lt_of_succ_lt_succ h)
theorem order_units {V : List Int32} (hu : Up V) : order (V.map hunit) = V.map hunit := by
  rcases Nat.eq_zero_or_pos V.length with z | z
  · rw [List.length_eq_zero_iff.mp z]
    rfl
  · refine oSort_id (fun i hi => ?_) _ (by rw [List.length_map]; omega)
    rw [List.length_map] at hi
    have hd : ∀ j, j < V.length → (V.map hunit).getD j hd0 = hunit (V.getD j 0) := fun j hj => by
      rw [List.getD_eq_getElem?_getD, List.getElem?_map, List.getD_eq_getElem?_getD, List.getElem?_eq_getElem hj]
      rfl
    rw [hd i (by omega), hd (i + 1) hi]
    have h1 := Up_adj hu hi
    intro q
    have q2 : (V.getD (i + 1) 0).toInt * (1 : Int32).toInt < (V.getD i 0).toInt * (1 : Int32).toInt := of_decide_eq_true (show decide _ = true from q)
    rw [show (1 : Int32).toInt = 1 from by decide +kernel, Int.mul_one, Int.mul_one] at q2
    have := Int32.le_iff_toInt_le.mp h1
    omega
theorem eq_sfo1 {V : List Int32} {x : Int32} : ∀ n f, sfS (srt V) x n f = sfM V x n f
  | 0, _ => rfl
  | n + 1, f => by
    rw [sfS, sfM, packL, order_units srt_Up.1, eq_sfo1 n (f + 1)]
theorem eq_sfo {X : SS} {i : Nat} {y : Int32} (hi : i < 3) : cSfo (clX X) i y = mSfo X (nI i) y := by
  have d : ¬ ¬ (nI 0 ≤ nI i ∧ nI i ≤ nI 2) := fun z => z ⟨(nI_leI (by omega) (by omega)).mpr (Nat.zero_le _), (nI_leI (by omega) (by omega)).mpr (by omega)⟩
  have e : (clX X).2.2 i = cl8 (X.2.2 i) := rfl
  unfold cSfo mSfo
  rw [if_neg d, nI_clamp (show i < 2 ^ 31 by omega), e]
  show (if _ then _ else sfS (srt (X.2.2 i).2.2.1) y 60 1) = _
  rw [eq_sfo1]

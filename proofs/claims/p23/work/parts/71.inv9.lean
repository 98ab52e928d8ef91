/-! truth, width and settings in the model -/
theorem HL_8 {σ u : Me} {A : List Hp} (h : HL σ A) (e : ∀ k, k ≠ 8 → u k = σ k) : HL u A := by
  refine ⟨by rw [e 0 (by omega)]; exact h.1, fun i hi => ?_⟩
  rw [← h.2 i hi]
  unfold hp8
  rw [e 4 (by omega), e 5 (by omega), e 6 (by omega), e 7 (by omega)]
def mTru (X : SS) (x q : Int32) : Int32 := if whyQ X x q 1000 < 0 then whyQ X x q 1000 else trV (srt (X.2.2 x.toNatClampNeg).2.2.1) q.toNatClampNeg
def mWid (X : SS) (x q : Int32) : Int32 := if whyQ X x q 1000 < 0 then whyQ X x q 1000 else wAt (nI (q.toNatClampNeg * ((X.2.2 x.toNatClampNeg).2.2.1.length - 1) / 1000)) (nI 0) (trL X x.toNatClampNeg)
theorem idx_lt {q n : Nat} (hq : q ≤ 1000) (hn : 0 < n) : q * (n - 1) / 1000 < n ∧ q * (n - 1) ≤ 1000 * (n - 1) := by
  have := Nat.mul_le_mul_right (n - 1) hq
  omega
theorem wAt_1 {idx acc : Int32} {A : List Hp} {k : Nat} (h : k < A.length) : wAt idx acc (A.drop k) = if idx < acc + h_w (A.getD k hd0) then h_g (A.getD k hd0) - h_l (A.getD k hd0) else wAt idx (acc + h_w (A.getD k hd0)) (A.drop (k + 1)) := by
  rw [drop_getD (d := hd0) h, wAt]
theorem sumN_take {A : List Hp} {k : Nat} (h : k < A.length) : sumN (A.take (k + 1)) = sumN (A.take k) + wN (A.getD k hd0) := by
  rw [← take_snoc (d := hd0) h, sumN_app]
  rfl
theorem trL_GH {X : SS} {i : Nat} (h : GD (X.2.2 i)) : (∀ x ∈ trL X i, GH x) ∧ sumN (trL X i) = (X.2.2 i).2.2.1.length := by
  obtain ⟨a, b⟩ := GD_all h
  have c := packL_GH (f := X.1) a (by rw [b]; exact h.1.2.1)
  exact ⟨c.1, c.2.trans b⟩
theorem trL_pos {X : SS} {i : Nat} (h : GD (X.2.2 i)) (h0 : 0 < (X.2.2 i).2.2.1.length) : 0 < (trL X i).length := by
  have := (trL_GH h).2
  rcases Nat.eq_zero_or_pos (trL X i).length with q | q
  · rw [List.length_eq_zero_iff.mp q] at this
    exact absurd this.symm (by show ¬ _ = 0; omega)
  · exact q
def sfM (V : List Int32) (x : Int32) : Nat → Nat → Int32
  | 0, _ => cNF
  | n + 1, f => if nI (ptog (nI f) ((srt V).map hunit)).length < x then sfM V x n (f + 1) else nI f
def mSfo (X : SS) (x y : Int32) : Int32 := if ¬ (nI 0 ≤ x ∧ x ≤ nI 2) then cINV else if ¬ (nI 1 ≤ y ∧ y ≤ nI 60) then cINV else sfM (X.2.2 x.toNatClampNeg).2.2.1 y 60 1

/-! what the model tells of a digest -/
def mdOf (X : SS) (i : Nat) : Nat → Int32
  | 0 => nI (X.2.2 i).2.2.1.length
  | 1 => nI (X.2.2 i).1.length
  | 2 => nI (X.2.2 i).2.1.length
  | 3 => if (X.2.2 i).2.2.1.length = 0 then cNF else (srt (X.2.2 i).2.2.1).getD 0 0
  | 4 => if (X.2.2 i).2.2.1.length = 0 then cNF else (srt (X.2.2 i).2.2.1).getD ((X.2.2 i).2.2.1.length - 1) 0
  | 5 => isum (X.2.2 i).2.2.1 (X.2.2 i).2.2.1.length
  | 6 => nI (trL X i).length
  | 7 => gwS (X.2.2 i).1 (X.2.2 i).1.length
  | _ => (X.2.2 i).2.2.2
def mDig (X : SS) (x w : Int32) : Int32 := if ¬ (nI 0 ≤ x ∧ x ≤ nI 2) then cINV else if ¬ (nI 0 ≤ w ∧ w ≤ nI 8) then cINV else mdOf X x.toNatClampNeg w.toNatClampNeg
theorem MC_8 {σ u : Me} {X : SS} {hh : List SS} {t : List Int32} (h : MC σ X hh t) (e : ∀ k, k ≠ 8 → u k = σ k) : MC u X hh t :=
  MC_fr h (by rw [e 1 (by omega)]; exact h.1) (e 2 (by omega)) (e 3 (by omega)) (by rw [e 0 (by omega)]) (by rw [e 0 (by omega)])
/-- why there is no quantile -/
def whyQ (X : SS) (x q : Int32) (m : Nat) : Int32 := if ¬ (nI 0 ≤ x ∧ x ≤ nI 2) then cINV else if ¬ (nI 0 ≤ q ∧ q ≤ nI m) then cINV else if (X.2.2 x.toNatClampNeg).2.2.1.length = 0 then cNP else 0
theorem whyQ_0 {X : SS} {x q : Int32} {m : Nat} (h : ¬ whyQ X x q m < 0) : ∃ i, i < 3 ∧ x = nI i ∧ (nI 0 ≤ q ∧ q ≤ nI m) ∧ 0 < (X.2.2 i).2.2.1.length := by
  unfold whyQ at h
  by_cases c1 : nI 0 ≤ x ∧ x ≤ nI 2
  · rw [if_neg (fun z => z c1)] at h
    by_cases c2 : nI 0 ≤ q ∧ q ≤ nI m
    · rw [if_neg (fun z => z c2)] at h
      obtain ⟨i, -, h2, rfl⟩ := rng_nat (a := 0) (b := 2) (by omega) (by omega) c1
      rw [nI_clamp (by omega)] at h
      by_cases c3 : (X.2.2 i).2.2.1.length = 0
      · rw [if_pos c3] at h
        exact absurd (by decide) h
      · exact ⟨i, by omega, rfl, c2, by omega⟩
    · rw [if_pos c2] at h
      exact absurd (by decide) h
  · rw [if_pos c1] at h
    exact absurd (by decide) h

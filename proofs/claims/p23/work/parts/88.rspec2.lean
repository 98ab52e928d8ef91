/-! a part that is played -/
def rcvP (s0 s1 : Int32) (D : Dg) (vs : List Int32) : Dg := vs.foldl (rcvM s0 s1) D
theorem rcvP_s {s0 s1 v : Int32} {D : Dg} {vs : List Int32} : rcvP s0 s1 D (vs ++ [v]) = rcvM s0 s1 (rcvP s0 s1 D vs) v := by
  rw [rcvP, List.foldl_append]
  rfl
theorem MC_T {σ : Me} {X : SS} {hh : List SS} {t : List Int32} (h : MC σ X hh t) : TX σ t := ⟨(MC_lh h).2.2.1, (MC_lh h).2.2.2, h.2.2.2.2⟩
theorem MC_at {σ : Me} {X : SS} {hh : List SS} {t : List Int32} {i : Nat} {v : Int32} (h : MC σ X hh t) (hi : 2 < i) : MC (mu σ 0 i v) X hh t :=
  MC_fr h (by rw [mu_r (by omega)]; exact h.1) (mu_r (by omega)) (mu_r (by omega)) (mu_i (by omega)) (mu_i (by omega))
theorem MC_9 {σ : Me} {X : SS} {hh : List SS} {t : List Int32} {i : Nat} {v : Int32} (h : MC σ X hh t) : MC (mu σ 9 i v) X hh t :=
  MC_fr h (by rw [mu_r (by omega)]; exact h.1) (mu_r (by omega)) (mu_r (by omega)) (mu_k (by omega)) (mu_k (by omega))
theorem MC_wd {σ : Me} {X : SS} {hh : List SS} {t : List Int32} {i n : Nat} (h : MC σ X hh t) : MC (wd8 σ i n) X hh t := by
  unfold wd8
  split
  · exact MC_9 h
  · exact h
theorem rL_le {t : List Int32} : ∀ (n : Nat) (m : Bool) (vs : List Int32) (e : Nat), vs.length ≤ (rL t n m vs e).2.1.length
  | 0, _, _, _ => Nat.le_refl _
  | n + 1, m, vs, e => by
    unfold rL
    split
    · split
      · exact Nat.le_refl _
      · have h2 := rL_le (t := t) n (decide (t.getD (rv t 4 (nI 0) 0 (e + 1)).2.2 0 = nI 44)) (vs ++ [(rv t 4 (nI 0) 0 (e + 1)).1]) (rv t 4 (nI 0) 0 (e + 1)).2.2
        rw [List.length_append, List.length_singleton] at h2
        omega
    · exact Nat.le_refl _
theorem rF2_vs {t : List Int32} {s : Nat} {q : Bool × List Int32 × Nat} : (rF2 t s q).2.2.1 = q.2.1 := by
  unfold rF2
  split
  · rfl
  · split <;> rfl
theorem rO_1 {W : List Int32} {R : Bool × Int32 × List Int32 × Nat} (h : rO W R = 0) : R.1 = true := by
  unfold rO at h
  split at h
  · omega
  · rename_i q
    cases hq : R.1 with
    | true => rfl
    | false => exact absurd hq q

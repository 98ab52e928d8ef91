/-! faults and play, by the model -/
theorem rL_ge {t : List Int32} : ∀ (n : Nat) (m : Bool) (vs : List Int32) (e : Nat), e ≤ (rL t n m vs e).2.2
  | 0, _, _, _ => Nat.le_refl _
  | n + 1, m, vs, e => by
    have h := rv_le (t := t) (e := e + 1)
    unfold rL
    split
    · split
      · show e ≤ (rv t 4 (nI 0) 0 (e + 1)).2.2
        omega
      · have h2 := rL_ge (t := t) n (decide (t.getD (rv t 4 (nI 0) 0 (e + 1)).2.2 0 = nI 44)) (vs ++ [(rv t 4 (nI 0) 0 (e + 1)).1]) (rv t 4 (nI 0) 0 (e + 1)).2.2
        omega
    · exact Nat.le_refl _
theorem rF_gt {t : List Int32} {s : Nat} (h : (rF t s).1 = true) : s < (rF t s).2.2.2 := by
  by_cases q : dgAt t s < 0
  · rw [rF_n q] at h; cases h
  · rw [rF_y q] at h ⊢
    have h2 := rL_ge (t := t) 60 (decide (t.getD (s + 1) 0 = nI 58)) [] (s + 1)
    unfold rF2 at h ⊢
    split at h
    · cases h
    · rename_i q1
      rw [if_neg q1]
      split at h
      · cases h
      · rename_i q2
        rw [if_neg q2]
        show s < (rL t 60 (decide (t.getD (s + 1) 0 = nI 58)) [] (s + 1)).2.2 + 1
        omega
theorem rdA_neg {t : List Int32} {s : Nat} (h : rdA t s < 0) : (rF t s).1 = false := by
  unfold rdA at h
  split at h
  · rename_i q
    obtain ⟨n, hn, e⟩ := rF_d q
    rw [e] at h
    exact absurd h (nI_pos (by omega))
  · rename_i q
    cases hq : (rF t s).1 with
    | true => exact absurd hq q
    | false => rfl
theorem rdA_pos {t : List Int32} {s : Nat} (h : 0 ≤ rdA t s) : (rF t s).1 = true ∧ ∃ i, i < 10 ∧ rdA t s = nI i ∧ (rF t s).2.1 = nI i := by
  unfold rdA at h ⊢
  split at h
  · rename_i q
    obtain ⟨n, hn, e⟩ := rF_d q
    exact ⟨q, n, hn, by rw [if_pos q]; exact e, e⟩
  · exact absurd h (by decide)
theorem rO_f {W : List Int32} {R : Bool × Int32 × List Int32 × Nat} (h : R.1 = false) : rO W R = 1 := if_pos h
theorem rO_o {W : List Int32} {R : Bool × Int32 × List Int32 × Nat} {i : Nat} (h : R.1 = true) (e : R.2.1 = nI i) (hi : ¬ i < 3) (h2 : i < 10) : rO W R = 2 := by
  rw [rO, if_neg (by rw [h]; decide), if_pos (by rw [e]; exact (nI_leI (by omega) (by omega)).mpr (by omega))]
theorem rO_b {W : List Int32} {R : Bool × Int32 × List Int32 × Nat} {i : Nat} (h : R.1 = true) (e : R.2.1 = nI i) (hi : i < 3) : rO W R = if nI 200 < W.getD i 0 + nI R.2.2.1.length then 3 else 0 := by
  rw [rO, if_neg (by rw [h]; decide), if_neg (by rw [e]; exact fun z => absurd ((nI_leI (by omega) (by omega)).mp z) (by omega)), e, nI_clamp (by omega)]
theorem ff_st {t : List Int32} {n s : Nat} {W : List Int32} (h : s < t.length) (h0 : rO W (rF t s) = 0) : ff t (n + 1) s W = ff t n (rF t s).2.2.2 (rW W (rF t s)) := by rw [ff, if_pos h, if_pos h0]
theorem ff_so {t : List Int32} {n s r : Nat} {W : List Int32} (h : s < t.length) (h0 : rO W (rF t s) = r) (hr : r ≠ 0) : ff t (n + 1) s W = some (s, r, nI (rF t s).2.2.2 - nI s) := by
  rw [ff, if_pos h, if_neg (by rw [h0]; exact hr), h0]
theorem ff_no {t : List Int32} {n s : Nat} {W : List Int32} (h : ¬ s < t.length) : ff t n s W = none := by
  cases n with
  | zero => rfl
  | succ n => rw [ff, if_neg h]
theorem wd_W {σ : Me} {W : List Int32} {i m : Nat} {x : Int32} (h : ∀ j, j < 3 → σ 9 j = W.getD j 0) (hl : W.length = 3) (hi : i < 3) : ∀ j, j < 3 → (mu (wd8 σ i m) 0 3 x) 9 j = (W.set i (W.getD i 0 + nI m)).getD j 0 := by
  intro j hj
  rw [mu_k (by omega), wd8, if_pos hi]
  match W, hl with
  | [a, b, c], _ =>
    have h0 := h 0 (by omega)
    have h1 := h 1 (by omega)
    have h2 := h 2 (by omega)
    rcases (show i = 0 ∨ i = 1 ∨ i = 2 by omega) with rfl | rfl | rfl <;> rcases (show j = 0 ∨ j = 1 ∨ j = 2 by omega) with rfl | rfl | rfl
    · rw [mu_s, h0]; rfl
    · rw [mu_i (by omega), h1]; rfl
    · rw [mu_i (by omega), h2]; rfl
    · rw [mu_i (by omega), h0]; rfl
    · rw [mu_s, h1]; rfl
    · rw [mu_i (by omega), h2]; rfl
    · rw [mu_i (by omega), h0]; rfl
    · rw [mu_i (by omega), h1]; rfl
    · rw [mu_s, h2]; rfl
theorem rW_z {W : List Int32} {R : Bool × Int32 × List Int32 × Nat} {i : Nat} (h : rO W R = 0) (e : R.2.1 = nI i) (hi : i < 3) : rW W R = W.set i (W.getD i 0 + nI R.2.2.1.length) := by
  rw [rW, if_pos h, e, nI_clamp (by omega)]
/-- the reason and the cause that the model keeps -/
def FO (u : Me) : Option (Nat × Nat × Int32) → Prop
  | none => True
  | some q => u 0 4 = nI q.2.1 ∧ u 0 5 = (if q.2.1 = 1 then q.2.2 else cNF)
def plM (t : List Int32) : Nat → Nat → SS → SS
  | 0, _, X => X
  | n + 1, s, X => if s < t.length then plM t n (rF t s).2.2.2 (setD X (rF t s).2.1.toNatClampNeg (rcvP X.1 X.2.1 (X.2.2 (rF t s).2.1.toNatClampNeg) (rF t s).2.2.1)) else X
theorem plM_1 {t : List Int32} {n s i : Nat} {X : SS} (h : s < t.length) (hi : i < 3) (e : (rF t s).2.1 = nI i) : plM t (n + 1) s X = plM t n (rF t s).2.2.2 (setD X i (rcvP X.1 X.2.1 (X.2.2 i) (rF t s).2.2.1)) := by
  rw [plM, if_pos h, e, nI_clamp (by omega)]
theorem plM_n {t : List Int32} {n s : Nat} {X : SS} (h : ¬ s < t.length) : plM t n s X = X := by
  cases n with
  | zero => rfl
  | succ n => rw [plM, if_neg h]
theorem rW_X {X : SS} {t : List Int32} {s i : Nat} {D : Dg} (h : XI X) (h0 : rO (Wof X) (rF t s) = 0) (hi : i < 3) (e : (rF t s).2.1 = nI i) (hX : XI (setD X i D)) (hl : D.2.2.1.length = (X.2.2 i).2.2.1.length + (rF t s).2.2.1.length) : rW (Wof X) (rF t s) = Wof (setD X i D) := by
  rw [rW_z h0 e hi, Wof_get h hi, nI_add, ← hl, Wof_eq hX, Wof_eq h]
  rcases (show i = 0 ∨ i = 1 ∨ i = 2 by omega) with rfl | rfl | rfl <;> rfl
def vSum (X : SS) : Int32 := nI ((X.2.2 0).2.2.1.length + (X.2.2 1).2.2.1.length + (X.2.2 2).2.2.1.length)
theorem wd_i {σ : Me} {i m : Nat} {x : Int32} (h : i < 3) : (mu (wd8 σ i m) 0 3 x) 9 i = σ 9 i + nI m := by
  rw [mu_k (by omega), wd8, if_pos h, mu_s]
theorem ff_pl {t : List Int32} {q : Nat × Nat × Int32} : ∀ {n s : Nat} {W : List Int32}, ff t n s W = some q → q.1 < t.length
  | 0, _, _, h => by cases h
  | n + 1, s, W, h => by
    unfold ff at h
    split at h
    · rename_i q1
      split at h
      · exact ff_pl h
      · cases h
        exact q1
    · cases h
theorem fau_ne {t : List Int32} {X : SS} {q : Nat × Nat × Int32} (ht : t.length ≤ 60) (h : faultOf t X = some q) : ¬ fauW (faultOf t X) 0 = (-1000004) := by
  have hp := ff_pl h
  rw [h]
  intro z
  have z2 : (-1000004 : Int32) < 0 := by decide
  rw [← show nI q.1 = (-1000004 : Int32) from z] at z2
  exact nI_pos (by omega) z2

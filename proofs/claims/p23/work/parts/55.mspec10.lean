/-! the model puts heaps together -/
theorem pt_end0 {σ : Me} {A : List Hp} {f : Int32} (h : A.length = 0) : HL (mu σ 0 2 (nI 0)) (ptog f A) := by
  rw [List.length_eq_zero_iff.mp h]
  exact HL.nil
theorem getD_snoc {α : Type} {d x : α} {l : List α} {i : Nat} (h : i < l.length) : (l ++ [x]).getD i d = l.getD i d := by
  rw [List.getD_eq_getElem?_getD, List.getD_eq_getElem?_getD, List.getElem?_append_left h]
theorem getD_snoc_l {α : Type} {d x : α} {l : List α} : (l ++ [x]).getD l.length d = x := by
  rw [List.getD_eq_getElem?_getD, List.getElem?_append_right (Nat.le_refl _), Nat.sub_self]
  rfl
theorem pt_end {σ : Me} {A P : List Hp} {f ah : Int32} {k n : Nat} (hl : P.length = n) (hP : ∀ i, i < n → hp8 σ i = P.getD i hd0) (hr : A.length = 0 ∨ ptog f A = P ++ mg f (wTot A) ah (hp8 σ n) (A.drop k)) (hk : A.length ≤ k) (h0 : 0 < A.length) : HL (mu σ 0 2 (nI (n + 1))) (ptog f A) := by
  rcases hr with z | hr
  · omega
  rw [List.drop_of_length_le hk, mg] at hr
  rw [hr]
  refine ⟨by rw [mu_s, List.length_append, List.length_singleton, hl], fun i hi => ?_⟩
  rw [hp8_o (by omega) (by omega) (by omega) (by omega)]
  rw [List.length_append, List.length_singleton] at hi
  by_cases q : i = n
  · rw [q, ← hl, getD_snoc_l]
  · rw [getD_snoc (by omega)]
    exact hP i (by omega)
theorem pt_unite {σ : Me} {A P : List Hp} {f ah : Int32} {k n : Nat} (hk : k < A.length) (hx : hp8 σ k = A.getD k hd0) (hr : A.length = 0 ∨ ptog f A = P ++ mg f (wTot A) ah (hp8 σ n) (A.drop k)) (hw : (σ 4 n + σ 4 k) * wTot A * f ≤ (nI 2 * ah + (σ 4 n + σ 4 k)) * (nI 2 * wTot A - nI 2 * ah - (σ 4 n + σ 4 k))) :
    A.length = 0 ∨ ptog f A = P ++ mg f (wTot A) ah (hp8 (put8 σ n (unI (hp8 σ n) (hp8 σ k))) n) (A.drop (k + 1)) := by
  rcases hr with z | hr
  · omega
  refine Or.inr ?_
  have hwi : wiB (h_w (hp8 σ n) + h_w (hp8 σ k)) ah (wTot A) f = true := decide_eq_true hw
  rw [hr, drop_getD (d := hd0) hk, ← hx, mg, if_pos hwi, hp8_s]
theorem pt_next {σ : Me} {A P : List Hp} {f ah : Int32} {k n : Nat} (hk : k < A.length) (hx : hp8 σ k = A.getD k hd0) (hr : A.length = 0 ∨ ptog f A = P ++ mg f (wTot A) ah (hp8 σ n) (A.drop k)) (hw : ¬ (σ 4 n + σ 4 k) * wTot A * f ≤ (nI 2 * ah + (σ 4 n + σ 4 k)) * (nI 2 * wTot A - nI 2 * ah - (σ 4 n + σ 4 k))) :
    A.length = 0 ∨ ptog f A = (P ++ [hp8 σ n]) ++ mg f (wTot A) (ah + σ 4 n) (hp8 (put8 σ (n + 1) (hp8 σ k)) (n + 1)) (A.drop (k + 1)) := by
  rcases hr with z | hr
  · omega
  refine Or.inr ?_
  have hwi : ¬ wiB (h_w (hp8 σ n) + h_w (hp8 σ k)) ah (wTot A) f = true := fun q => hw (of_decide_eq_true q)
  rw [hr, drop_getD (d := hd0) hk, ← hx, mg, if_neg hwi, hp8_s, List.append_assoc]
  rfl

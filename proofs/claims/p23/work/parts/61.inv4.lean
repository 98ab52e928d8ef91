/-! all that the model holds: a state, the recorded ones, the text -/
set_option maxRecDepth 100000 in
theorem MS.congr {f g : Nat → Int32} {X : SS} (h : MS f X) (hX : LX X) (e : ∀ i, i < 3074 → g i = f i) : MS g X := by
  obtain ⟨a, b, c⟩ := h
  refine ⟨(e 0 (Nat.succ_pos _)).trans a, (e 1 (Nat.le_of_ble_eq_true rfl)).trans b, fun i hi => ?_⟩
  obtain ⟨l1, l2, l3⟩ := hX i hi
  have h3 : 2 + 1024 * (i + 1) ≤ 3074 := by
    have := Nat.mul_le_mul_left 1024 (show i + 1 ≤ 3 from hi)
    omega
  exact (c i hi).congr l1 l2 l3 (fun j _ h2 => e j (Nat.lt_of_lt_of_le h2 h3))
def MC (σ : Me) (X : SS) (hh : List SS) (t : List Int32) : Prop :=
  MS (σ 1) X ∧ (σ 0 0 = nI hh.length ∧ hh.length ≤ 4 ∧ ∀ j Y, hh[j]? = some Y → MS (fun i => σ 2 (3074 * j + i)) Y) ∧ σ 0 1 = nI t.length ∧ t.length ≤ 60 ∧ ∀ i, i < t.length → σ 3 i = t.getD i 0
theorem MC_fr {σ u : Me} {X X' : SS} {hh : List SS} {t : List Int32} (h : MC σ X hh t) (e1 : MS (u 1) X') (e2 : u 2 = σ 2) (e3 : u 3 = σ 3) (e4 : u 0 0 = σ 0 0) (e5 : u 0 1 = σ 0 1) : MC u X' hh t := by
  obtain ⟨a, ⟨b, c, d⟩, f, g, i⟩ := h
  exact ⟨e1, ⟨e4.trans b, c, fun j Y hj => by rw [e2]; exact d j Y hj⟩, e5.trans f, g, fun j hj => by rw [e3]; exact i j hj⟩
theorem MC_q {σ u : Me} {X X' : SS} {hh : List SS} {t : List Int32} (h : MC σ X hh t) (e1 : MS (u 1) X') (e : Oq σ u) : MC u X' hh t :=
  MC_fr h e1 (funext fun i => e 2 i (by omega) (by omega) (by omega) (by omega) (by omega) (by omega)) (funext fun i => e 3 i (by omega) (by omega) (by omega) (by omega) (by omega) (by omega)) (e 0 0 (by omega) (by omega) (by omega) (by omega) (by omega) (by omega)) (e 0 1 (by omega) (by omega) (by omega) (by omega) (by omega) (by omega))
theorem MC_1 {σ u : Me} {X X' : SS} {hh : List SS} {t : List Int32} (h : MC σ X hh t) (e1 : MS (u 1) X') (e : ∀ k, k ≠ 1 → u k = σ k) : MC u X' hh t := MC_q h e1 (Oq.of1 e)
theorem MC_t {σ u : Me} {X : SS} {hh : List SS} {t : List Int32} (h : MC σ X hh t) (e : Ot σ u) : MC u X hh t := MC_q h (by rw [e.r1]; exact h.1) e.q
/-- the recorded states move one place ahead -/
def sh8 (σ : Me) (n : Nat) : Me := fun k i => if k = 2 ∧ i < n then σ 2 (i + 3074) else σ k i
set_option maxRecDepth 100000 in
theorem sh8_0 {σ : Me} : sh8 σ 0 = σ := by
  funext k i
  exact if_neg (by omega)
set_option maxRecDepth 100000 in
theorem sh8_1 {σ : Me} {n : Nat} : mu (sh8 σ n) 2 n (sh8 σ n 2 (n + 3074)) = sh8 σ (n + 1) := by
  funext k i
  have e : sh8 σ n 2 (n + 3074) = σ 2 (n + 3074) := if_neg (by omega)
  rw [e]
  unfold mu
  by_cases q : k = 2 ∧ i = n
  · obtain ⟨rfl, rfl⟩ := q
    rw [if_pos ⟨rfl, rfl⟩]
    exact (if_pos ⟨rfl, by omega⟩).symm
  · rw [if_neg q]
    unfold sh8
    by_cases q2 : k = 2 ∧ i < n
    · rw [if_pos q2, if_pos ⟨q2.1, by omega⟩]
    · rw [if_neg q2, if_neg (fun z => q2 ⟨z.1, by have := z.2; have : i ≠ n := fun w => q ⟨z.1, w⟩; omega⟩)]
set_option maxRecDepth 100000 in
theorem MC_shift {σ : Me} {X : SS} {hh : List SS} {t : List Int32} (h : MC σ X hh t) (hH : ∀ Y ∈ hh, LX Y) (h4 : hh.length = 4) : MC (mu (sh8 σ 9222) 0 0 (nI 3)) X hh.tail t := by
  obtain ⟨a, ⟨b, c, d⟩, f, g, i⟩ := h
  have e : ∀ k j, k ≠ 2 → k ≠ 0 → mu (sh8 σ 9222) 0 0 (nI 3) k j = σ k j := fun k j h2 h0 => by rw [mu_k h0]; exact if_neg (fun q => h2 q.1)
  have hl : hh.tail.length = 3 := by rw [List.length_tail, h4]
  refine ⟨?_, ⟨by rw [mu_s, hl], by omega, fun j Y hj => ?_⟩, ?_, g, fun j hj => (e 3 j (by omega) (by omega)).trans (i j hj)⟩
  · rw [show mu (sh8 σ 9222) 0 0 (nI 3) 1 = σ 1 from funext fun j => e 1 j (by omega) (by omega)]
    exact a
  · have hj3 := (List.getElem?_eq_some_iff.mp hj).1
    rw [List.getElem?_tail] at hj
    have hm : Y ∈ hh := List.mem_of_getElem? hj
    refine (d (j + 1) Y hj).congr (hH Y hm) (fun q hq => ?_)
    show mu (sh8 σ 9222) 0 0 (nI 3) 2 (3074 * j + q) = σ 2 (3074 * (j + 1) + q)
    rw [mu_k (by omega)]
    have : sh8 σ 9222 2 (3074 * j + q) = σ 2 (3074 * j + q + 3074) := if_pos ⟨rfl, by omega⟩
    rw [this, show 3074 * j + q + 3074 = 3074 * (j + 1) + q by omega]
  · rw [mu_i (by omega)]
    exact (if_neg (by omega)).trans f
set_option maxRecDepth 100000 in
theorem MC_push {σ : Me} {X : SS} {hh : List SS} {t : List Int32} (h : MC σ X hh t) (hX : LX X) (hH : ∀ Y ∈ hh, LX Y) (h4 : hh.length ≤ 3) : MC (mu (cp8 σ 1 0 2 (hh.length * 3074) 3074) 0 0 (nI (hh.length + 1))) X (hh ++ [X]) t := by
  obtain ⟨a, ⟨b, c, d⟩, f, g, i⟩ := h
  have e : ∀ k j, k ≠ 2 → k ≠ 0 → mu (cp8 σ 1 0 2 (hh.length * 3074) 3074) 0 0 (nI (hh.length + 1)) k j = σ k j := fun k j h2 h0 => by rw [mu_k h0]; exact if_neg (fun q => h2 q.1)
  refine ⟨?_, ⟨by rw [mu_s, List.length_append, List.length_singleton], by rw [List.length_append, List.length_singleton]; omega, fun j Y hj => ?_⟩, ?_, g, fun j hj => (e 3 j (by omega) (by omega)).trans (i j hj)⟩
  · rw [show mu (cp8 σ 1 0 2 (hh.length * 3074) 3074) 0 0 (nI (hh.length + 1)) 1 = σ 1 from funext fun j => e 1 j (by omega) (by omega)]
    exact a
  · by_cases q : j < hh.length
    · rw [List.getElem?_append_left q] at hj
      refine (d j Y hj).congr (hH Y (List.mem_of_getElem? hj)) (fun r hr => ?_)
      show mu (cp8 σ 1 0 2 (hh.length * 3074) 3074) 0 0 (nI (hh.length + 1)) 2 (3074 * j + r) = σ 2 (3074 * j + r)
      rw [mu_k (by omega)]
      exact if_neg (by omega)
    · have hj2 := (List.getElem?_eq_some_iff.mp hj).1
      rw [List.length_append, List.length_singleton] at hj2
      obtain rfl : j = hh.length := by omega
      rw [List.getElem?_append_right (Nat.le_refl _), Nat.sub_self] at hj
      cases hj
      refine a.congr hX (fun r hr => ?_)
      show mu (cp8 σ 1 0 2 (hh.length * 3074) 3074) 0 0 (nI (hh.length + 1)) 2 (3074 * hh.length + r) = σ 1 r
      rw [mu_k (by omega)]
      have : cp8 σ 1 0 2 (hh.length * 3074) 3074 2 (3074 * hh.length + r) = σ 1 (0 + (3074 * hh.length + r - hh.length * 3074)) := if_pos ⟨rfl, by omega, by omega⟩
      rw [this, show 0 + (3074 * hh.length + r - hh.length * 3074) = r by omega]
  · rw [mu_i (by omega)]
    exact (if_neg (by omega)).trans f

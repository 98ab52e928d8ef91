/-! more of what the model's public methods answer -/
def mSet (X : SS) (h : List SS) (w v : Int32) : Int32 × SS × List SS := cSet X h w v
theorem MS_set {f g : Nat → Int32} {X : SS} {n : Nat} {v : Int32} (h : MS f X) (hX : LX X) (hn : n < 2) (e1 : g n = v) (e : ∀ i, i ≠ n → g i = f i) : MS g (setS X n v) := by
  obtain ⟨a, b, c⟩ := h
  have e2 : (setS X n v).2.2 = X.2.2 := by
    unfold setS
    split <;> rfl
  refine ⟨?_, ?_, fun i hi => ?_⟩
  · rcases (show n = 0 ∨ n = 1 by omega) with rfl | rfl
    · exact e1
    · exact (e 0 (by omega)).trans a
  · rcases (show n = 0 ∨ n = 1 by omega) with rfl | rfl
    · exact (e 1 (by omega)).trans b
    · exact e1
  · rw [e2]
    obtain ⟨l1, l2, l3⟩ := hX i hi
    exact (c i hi).congr l1 l2 l3 (fun j h1 _ => e j (by omega))
theorem MC_text {σ u : Me} {X : SS} {hh : List SS} {t t' : List Int32} (h : MC σ X hh t) (e1 : u 1 = σ 1) (e2 : u 2 = σ 2) (e4 : u 0 0 = σ 0 0) (f1 : u 0 1 = nI t'.length) (f2 : t'.length ≤ 60) (f3 : ∀ i, i < t'.length → u 3 i = t'.getD i 0) : MC u X hh t' := by
  obtain ⟨a, ⟨b, c, d⟩, -⟩ := h
  exact ⟨by rw [e1]; exact a, ⟨e4.trans b, c, fun j Y hj => by rw [e2]; exact d j Y hj⟩, f1, f2, f3⟩
theorem MC_undo {σ : Me} {X Y : SS} {hh : List SS} {t : List Int32} (h : MC σ X (hh ++ [Y]) t) (hY : LX Y) : MC (cp8 (mu σ 0 0 (nI hh.length)) 2 (hh.length * 3074) 1 0 3074) Y hh t := by
  obtain ⟨a, ⟨b, c, d⟩, f, g, i⟩ := h
  rw [List.length_append, List.length_singleton] at c
  have e : ∀ k j, k ≠ 1 → cp8 (mu σ 0 0 (nI hh.length)) 2 (hh.length * 3074) 1 0 3074 k j = mu σ 0 0 (nI hh.length) k j := fun k j h1 => if_neg (fun q => h1 q.1)
  refine ⟨?_, ⟨by rw [e 0 0 (by omega), mu_s], by omega, fun j Z hj => ?_⟩, by rw [e 0 1 (by omega), mu_i (by omega)]; exact f, g, fun j hj => by rw [e 3 j (by omega), mu_k (by omega)]; exact i j hj⟩
  · have hj : (hh ++ [Y])[hh.length]? = some Y := by rw [List.getElem?_append_right (Nat.le_refl _), Nat.sub_self]; rfl
    refine (d _ Y hj).congr hY (fun q hq => ?_)
    have : cp8 (mu σ 0 0 (nI hh.length)) 2 (hh.length * 3074) 1 0 3074 1 q = mu σ 0 0 (nI hh.length) 2 (hh.length * 3074 + (q - 0)) := if_pos ⟨rfl, Nat.zero_le _, by rw [Nat.zero_add]; exact hq⟩
    rw [this, mu_k (by omega), Nat.sub_zero, Nat.mul_comm]
  · have hj2 : (hh ++ [Y])[j]? = some Z := by rw [List.getElem?_append_left (List.getElem?_eq_some_iff.mp hj).1]; exact hj
    have := d j Z hj2
    have e2 : cp8 (mu σ 0 0 (nI hh.length)) 2 (hh.length * 3074) 1 0 3074 2 = σ 2 := by
      funext i9
      rw [e 2 i9 (by omega), mu_k (by omega)]
    rw [e2]
    exact this
theorem MC_lh {σ : Me} {X : SS} {hh : List SS} {t : List Int32} (h : MC σ X hh t) : σ 0 0 = nI hh.length ∧ hh.length ≤ 4 ∧ σ 0 1 = nI t.length ∧ t.length ≤ 60 := ⟨h.2.1.1, h.2.1.2.1, h.2.2.1, h.2.2.2.1⟩

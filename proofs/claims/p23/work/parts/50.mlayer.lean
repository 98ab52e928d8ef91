/-! The model's world: one object and nine arrays of ints; what changes in it is an int at a place of an array, or of the object (array 0). -/
abbrev Me : Type := Nat → Nat → Int32
def ln8 (k : Nat) : Nat := [0, 3074, 12296, 60, 400, 400, 400, 400, 200, 3].getD k 0
def mu (σ : Me) (k i : Nat) (v : Int32) : Me := fun k' i' => if k' = k ∧ i' = i then v else σ k' i'
theorem mu_s {σ : Me} {k i : Nat} {v : Int32} : mu σ k i v k i = v := if_pos ⟨rfl, rfl⟩
theorem mu_k {σ : Me} {k i k' i' : Nat} {v : Int32} (h : k' ≠ k) : mu σ k i v k' i' = σ k' i' := if_neg (fun q => h q.1)
theorem mu_i {σ : Me} {k i k' i' : Nat} {v : Int32} (h : i' ≠ i) : mu σ k i v k' i' = σ k' i' := if_neg (fun q => h q.2)
theorem mu_r {σ : Me} {k i k' : Nat} {v : Int32} (h : k' ≠ k) : mu σ k i v k' = σ k' := by
  funext i'
  exact mu_k h
theorem mu_id {σ : Me} {k i : Nat} {v : Int32} (h : σ k i = v) : mu σ k i v = σ := by
  funext k' i'
  by_cases q : k' = k ∧ i' = i
  · rw [q.1, q.2, mu_s, h]
  · exact if_neg q
theorem mu_mu {σ : Me} {k i : Nat} {v w : Int32} : mu (mu σ k i v) k i w = mu σ k i w := by
  funext k' i'
  by_cases q : k' = k ∧ i' = i
  · rw [q.1, q.2, mu_s, mu_s]
  · unfold mu
    rw [if_neg q, if_neg q, if_neg q]
def Inj8 (L : Lay) : Prop := ∀ i j, i < 10 → j < 10 → ad L i = ad L j → i = j
def Aw8 (L : Lay) : Nat → Prop := fun q => ∃ k, k < 10 ∧ q = ad L k
section QM8
variable {p : Program} {l : Launch} {e : Env} {R : Room} {s : State} {m : MethodId} {args : Array Value} {below : List Frame} {meth : Method} {c : Code} {H : Heap} {locs : List Loc} {cells slots : Nat} {Q : State → Prop}
variable {cc : ByteArray} {pc nL index : Nat} {own : String} {ls : Array Slot} {rest st0 : List Value} {L : Lay} {H0 : Heap} {σ σ' : Me} {k : Nat}
theorem fin_p8 {post : Option Value → Me → Prop} {r r' : Option Value} {σ σ' : Me} (h : post r' σ') (h1 : r = r') (h2 : σ = σ') : post r σ := h1 ▸ h2 ▸ h
end QM8

/-! the text's parts, as the class reads them -/
def dgAt (t : List Int32) (j : Nat) : Int32 := if nI 48 ≤ t.getD j 0 ∧ t.getD j 0 ≤ nI 57 then t.getD j 0 - nI 48 else (-1)
def rv (t : List Int32) : Nat → Int32 → Nat → Nat → Int32 × Nat × Nat
  | 0, v, g, e => (v, g, e)
  | n + 1, v, g, e => if 0 ≤ dgAt t e then rv t n (v * nI 10 + dgAt t e) (g + 1) (e + 1) else (v, g, e)
theorem rv_e {t : List Int32} : ∀ (n : Nat) (v : Int32) (g e : Nat), (rv t n v g e).2.2 ≤ e + n
  | 0, _, _, _ => Nat.le_refl _
  | n + 1, v, g, e => by
    unfold rv
    split
    · have := rv_e (t := t) n (v * nI 10 + dgAt t e) (g + 1) (e + 1)
      omega
    · exact Nat.le_add_right _ _
def rL (t : List Int32) : Nat → Bool → List Int32 → Nat → Bool × List Int32 × Nat
  | 0, _, vs, e => (true, vs, e)
  | n + 1, more, vs, e => if more = true then (if (rv t 4 (nI 0) 0 (e + 1)).2.1 = 0 then (false, vs, (rv t 4 (nI 0) 0 (e + 1)).2.2) else rL t n (decide (t.getD (rv t 4 (nI 0) 0 (e + 1)).2.2 0 = nI 44)) (vs ++ [(rv t 4 (nI 0) 0 (e + 1)).1]) (rv t 4 (nI 0) 0 (e + 1)).2.2) else (true, vs, e)
def rF2 (t : List Int32) (s : Nat) (q : Bool × List Int32 × Nat) : Bool × Int32 × List Int32 × Nat :=
  if q.1 = false then (false, dgAt t s, q.2.1, q.2.2) else if q.2.1.length = 0 ∨ t.getD q.2.2 0 ≠ nI 59 then (false, dgAt t s, q.2.1, q.2.2) else (true, dgAt t s, q.2.1, q.2.2 + 1)
def rF (t : List Int32) (s : Nat) : Bool × Int32 × List Int32 × Nat :=
  if dgAt t s < 0 then (false, dgAt t s, [], s) else rF2 t s (rL t 60 (decide (t.getD (s + 1) 0 = nI 58)) [] (s + 1))
theorem rL_e {t : List Int32} : ∀ (n : Nat) (m : Bool) (vs : List Int32) (e : Nat), (rL t n m vs e).2.2 ≤ e + 5 * n ∧ (rL t n m vs e).2.1.length ≤ vs.length + n
  | 0, _, _, _ => ⟨Nat.le_refl _, Nat.le_refl _⟩
  | n + 1, m, vs, e => by
    unfold rL
    have h := rv_e (t := t) 4 (nI 0) 0 (e + 1)
    split
    · split
      · exact ⟨by show (rv t 4 (nI 0) 0 (e + 1)).2.2 ≤ _; omega, Nat.le_add_right _ _⟩
      · have h2 := rL_e (t := t) n (decide (t.getD (rv t 4 (nI 0) 0 (e + 1)).2.2 0 = nI 44)) (vs ++ [(rv t 4 (nI 0) 0 (e + 1)).1]) (rv t 4 (nI 0) 0 (e + 1)).2.2
        rw [List.length_append, List.length_singleton] at h2
        omega
    · exact ⟨by show e ≤ _; omega, Nat.le_add_right _ _⟩
theorem rF_e {t : List Int32} {s : Nat} : (rF t s).2.2.2 ≤ s + 310 ∧ (rF t s).2.2.1.length ≤ 60 := by
  have h := rL_e (t := t) 60 (decide (t.getD (s + 1) 0 = nI 58)) [] (s + 1)
  unfold rF
  split
  · exact ⟨by show s ≤ _; omega, Nat.zero_le _⟩
  · unfold rF2
    split
    · exact ⟨by show (rL t 60 _ [] (s + 1)).2.2 ≤ _; omega, by show (rL t 60 _ [] (s + 1)).2.1.length ≤ _; have := h.2; rw [List.length_nil] at this; omega⟩
    · split
      · exact ⟨by show (rL t 60 _ [] (s + 1)).2.2 ≤ _; omega, by show (rL t 60 _ [] (s + 1)).2.1.length ≤ _; have := h.2; rw [List.length_nil] at this; omega⟩
      · exact ⟨by show (rL t 60 _ [] (s + 1)).2.2 + 1 ≤ _; omega, by show (rL t 60 _ [] (s + 1)).2.1.length ≤ _; have := h.2; rw [List.length_nil] at this; omega⟩
theorem dgAt_n {t : List Int32} {j : Nat} (h : ¬ dgAt t j < 0) : ∃ n, n < 10 ∧ dgAt t j = nI n := by
  unfold dgAt at h ⊢
  by_cases q : nI 48 ≤ t.getD j 0 ∧ t.getD j 0 ≤ nI 57
  · rw [if_pos q]
    obtain ⟨h1, h2⟩ := q
    obtain ⟨m, hm, e⟩ := nI_of2 (x := t.getD j 0) (M := nI 57) (n := 57) (by decide) (fun z => by
      have a := Int32.le_iff_toInt_le.mp h1
      have b := Int32.lt_iff_toInt_lt.mp z
      rw [nI_toInt (by omega)] at a
      rw [show (0 : Int32).toInt = 0 from by decide] at b
      omega) h2
    rw [e] at h1
    have h3 := (nI_leI (by omega) (by omega)).mp h1
    exact ⟨m - 48, by omega, by rw [e, pk_sub h3]⟩
  · rw [if_neg q] at h
    exact absurd (by decide) h
theorem rF_d {t : List Int32} {s : Nat} (h : (rF t s).1 = true) : ∃ n, n < 10 ∧ (rF t s).2.1 = nI n := by
  unfold rF at h ⊢
  split at h
  · cases h
  · rename_i q
    rw [if_neg q]
    obtain ⟨n, hn, e⟩ := dgAt_n q
    refine ⟨n, hn, ?_⟩
    unfold rF2
    split
    · exact e
    · split <;> exact e
/-- the reason of a part, 0 for none, and the digests' weights behind it -/
def rO (W : List Int32) (R : Bool × Int32 × List Int32 × Nat) : Nat :=
  if R.1 = false then 1 else if nI 3 ≤ R.2.1 then 2 else if nI 200 < W.getD R.2.1.toNatClampNeg 0 + nI R.2.2.1.length then 3 else 0
def rW (W : List Int32) (R : Bool × Int32 × List Int32 × Nat) : List Int32 :=
  if rO W R = 0 then W.set R.2.1.toNatClampNeg (W.getD R.2.1.toNatClampNeg 0 + nI R.2.2.1.length) else W
/-- the first fault: where, why, the length of the broken part -/
def ff (t : List Int32) : Nat → Nat → List Int32 → Option (Nat × Nat × Int32)
  | 0, _, _ => none
  | n + 1, s, W => if s < t.length then (if rO W (rF t s) = 0 then ff t n (rF t s).2.2.2 (rW W (rF t s)) else some (s, rO W (rF t s), nI (rF t s).2.2.2 - nI s)) else none
def Wof (X : SS) : List Int32 := [dW (X.2.2 0).1 (X.2.2 0).2.1, dW (X.2.2 1).1 (X.2.2 1).2.1, dW (X.2.2 2).1 (X.2.2 2).2.1]
def faultOf (t : List Int32) (X : SS) : Option (Nat × Nat × Int32) := ff t 60 0 (Wof X)
/-- the part that was read: its digest and end, its values -/
def tx (σ : St) (y vs : List Int32) : St := up (up σ 229 y) 230 vs
theorem tx_229 {σ : St} {y vs : List Int32} : tx σ y vs 229 = y := by rw [tx, up_n (by omega), up_s]
theorem tx_230 {σ : St} {y vs : List Int32} : tx σ y vs 230 = vs := by rw [tx, up_s]
theorem tx_n {σ : St} {k : Nat} {y vs : List Int32} (h1 : k ≠ 229) (h2 : k ≠ 230) : tx σ y vs k = σ k := by rw [tx, up_n h2, up_n h1]
theorem tx_of {σ σ' : St} {y vs : List Int32} (h1 : σ' 229 = y) (h2 : σ' 230 = vs) (h3 : ∀ k, k ≠ 229 → k ≠ 230 → σ' k = σ k) : σ' = tx σ y vs := by
  funext k
  by_cases a : k = 229
  · rw [a, h1, tx_229]
  · by_cases b : k = 230
    · rw [b, h2, tx_230]
    · rw [h3 k a b, tx_n a b]
theorem tx_u9 {σ : St} {y y' vs : List Int32} : up (tx σ y vs) 229 y' = tx σ y' vs := tx_of up_s (by rw [up_n (by omega), tx_230]) (fun k a b => by rw [up_n a, tx_n a b])
theorem tx_u0 {σ : St} {y vs vs' : List Int32} : up (tx σ y vs) 230 vs' = tx σ y vs' := tx_of (by rw [up_n (by omega), tx_229]) up_s (fun k a b => by rw [up_n b, tx_n a b])
theorem tx_tx {σ : St} {y vs y' vs' : List Int32} : tx (tx σ y vs) y' vs' = tx σ y' vs' := tx_of tx_229 tx_230 (fun k a b => by rw [tx_n a b, tx_n a b])
theorem rF2_f {t vs : List Int32} {s e : Nat} : rF2 t s (false, vs, e) = (false, dgAt t s, vs, e) := by rw [rF2, if_pos rfl]
theorem rF2_no {t vs : List Int32} {s e : Nat} (h : vs.length = 0 ∨ t.getD e 0 ≠ nI 59) : rF2 t s (true, vs, e) = (false, dgAt t s, vs, e) := by
  rw [rF2, if_neg (by simp), if_pos h]
theorem rF2_yes {t vs : List Int32} {s e : Nat} (h : 0 < vs.length) (h2 : t.getD e 0 = nI 59) : rF2 t s (true, vs, e) = (true, dgAt t s, vs, e + 1) := by
  rw [rF2, if_neg (by simp), if_neg]
  rintro (z | z)
  · exact Nat.ne_of_gt h z
  · exact z h2

/-! joining in the model; the values in order -/
def toM (f : Int32) (D2 D : Dg) (k : Nat) : Dg := (packL f ((pkD f D).1 ++ (pkD f D2).1), [], D.2.2.1 ++ D2.2.2.1.take k, D.2.2.2 + nI 1 + nI 1)
theorem setD_ij {X : SS} {i j : Nat} {D E : Dg} (h : i ≠ j) : (setD (setD X i D) j E).2.2 i = D := by rw [setD_n h, setD_i]
theorem to_GH {f : Int32} {D D2 : Dg} (h : GD D) (h2 : GD D2) (hV : D.2.2.1.length + D2.2.2.1.length ≤ 200) : (∀ x ∈ (pkD f D).1 ++ (pkD f D2).1, GH x) ∧ sumN ((pkD f D).1 ++ (pkD f D2).1) ≤ 200 ∧ ((pkD f D).1 ++ (pkD f D2).1).length ≤ 200 := by
  have a := GD_pk (f := f) h
  have b := GD_pk (f := f) h2
  have a2 := GD_sum a
  have b2 := GD_sum b
  have ea : (pkD f D).2.2.1 = D.2.2.1 := rfl
  have eb : (pkD f D2).2.2.1 = D2.2.2.1 := rfl
  have za : (pkD f D).2.1.length = 0 := rfl
  have zb : (pkD f D2).2.1.length = 0 := rfl
  rw [ea, za] at a2
  rw [eb, zb] at b2
  have la := a.1.1
  have lb := b.1.1
  rw [ea] at la
  rw [eb] at lb
  refine ⟨fun x hx => ?_, by rw [sumN_app]; omega, by rw [List.length_append]; omega⟩
  rcases List.mem_append.mp hx with q | q
  · exact a.2.1 x q
  · exact b.2.1 x q
theorem GD_toM {f : Int32} {D D2 : Dg} (h : GD D) (h2 : GD D2) (hV : D.2.2.1.length + D2.2.2.1.length ≤ 200) : GD (toM f D2 D D2.2.2.1.length) := by
  obtain ⟨g1, g2, g3⟩ := to_GH (f := f) h h2 hV
  obtain ⟨p1, p2⟩ := packL_GH (f := f) g1 g2
  have hL := LI_to (f := f) h.1 h2.1 hV
  have e : (toM f D2 D D2.2.2.1.length).2.2.1.length = (toD f D2 D).2.2.1.length := by
    show (D.2.2.1 ++ D2.2.2.1.take D2.2.2.1.length).length = (D2.2.2.1.foldl ins D.2.2.1).length
    rw [List.take_length, List.length_append, foldl_ins_len]
  refine ⟨⟨by rw [e]; exact hL.1, by rw [e]; exact hL.2.1, Nat.zero_le _, by rw [e]; exact hL.2.2.2⟩, p1, fun v hv => (by cases hv), fun v hv => ?_⟩
  rcases List.mem_append.mp hv with q | q
  · exact h.2.2.2 v q
  · exact h2.2.2.2 v (List.mem_of_mem_take q)
def mJoin1 (X : SS) (h : List SS) (i j : Nat) : Int32 × SS × List SS :=
  if i = j then (cINV, X, h) else if 200 < (X.2.2 i).2.2.1.length + (X.2.2 j).2.2.1.length then (cLIM, X, h)
  else (nI ((X.2.2 j).2.2.1.length + (X.2.2 i).2.2.1.length), setD (setD X i (pkD X.1 (X.2.2 i))) j (toM X.1 (X.2.2 i) (X.2.2 j) (X.2.2 i).2.2.1.length), recH h X)
def mJoin (X : SS) (h : List SS) (x y : Int32) : Int32 × SS × List SS := if ¬ (nI 0 ≤ x ∧ x ≤ nI 2) then (cINV, X, h) else if ¬ (nI 0 ≤ y ∧ y ≤ nI 2) then (cINV, X, h) else mJoin1 X h x.toNatClampNeg y.toNatClampNeg
def srt (V : List Int32) : List Int32 := V.foldl ins []
theorem srt_len {V : List Int32} : (srt V).length = V.length := by rw [srt, foldl_ins_len, List.length_nil, Nat.zero_add]
theorem srt_take {V : List Int32} {k : Nat} (h : k < V.length) : srt (V.take (k + 1)) = ins (srt (V.take k)) (V.getD k 0) := by
  rw [← take_snoc (d := 0) h, srt, List.foldl_append]
  rfl
/-- the values in order, as the model holds them -/
def OV (σ : Me) (V : List Int32) : Prop := ∀ i, i < V.length → σ 8 i = V.getD i 0
theorem OV_fill {σ : Me} {B : List Int32} {n P : Nat} {v : Int32} (hB : B.length = n) (hx : v = B.getD P 0) (hh : ∀ i, i < n → i ≠ P → σ 8 i = B.getD i 0) : OV (mu σ 8 P v) B := fun i hi => by
  by_cases q : i = P
  · rw [q, mu_s, hx]
  · rw [mu_i q]
    exact hh i (by omega) q
theorem OV_next {σ : Me} {B : List Int32} {n p : Nat} {v : Int32} (hB : B.length = n) (hp : p + 1 < n) (hx : v = B.getD (p + 1) 0) (hh : ∀ i, i < n → i ≠ p + 1 → σ 8 i = B.getD i 0) :
    v = (swp 0 B p (p + 1)).getD p 0 ∧ ∀ i, i < n → i ≠ p → mu σ 8 (p + 1) (σ 8 p) 8 i = (swp 0 B p (p + 1)).getD i 0 := by
  refine ⟨by rw [hx, swp_lo (by omega)], fun i hi hip => ?_⟩
  by_cases q : i = p + 1
  · rw [q, mu_s, swp_hi (by omega)]
    exact hh p (by omega) (by omega)
  · rw [mu_i q, swp_ot hip q]
    exact hh i hi q
def gwS (A : List Hp) : Nat → Int32
  | 0 => cNF
  | n + 1 => if gwS A n < h_w (A.getD n hd0) then h_w (A.getD n hd0) else gwS A n

/-! heaps stay within their ranges; the digests of the model -/
def Vn (v : Int32) : Prop := ∃ n : Nat, n ≤ 9999 ∧ v = nI n
def wN (x : Hp) : Nat := (h_w x).toNatClampNeg
def sumN : List Hp → Nat
  | [] => 0
  | x :: r => wN x + sumN r
theorem wN_GH {x : Hp} (h : GH x) : h_w x = nI (wN x) ∧ 1 ≤ wN x ∧ wN x ≤ 200 := by
  obtain ⟨w, s, l, g, rfl, h1, h2, h3, h4, h5⟩ := h
  unfold wN
  show nI w = nI (nI w).toNatClampNeg ∧ 1 ≤ (nI w).toNatClampNeg ∧ (nI w).toNatClampNeg ≤ 200
  rw [nI_clamp (by omega)]
  exact ⟨rfl, h1, h2⟩
theorem min_ite {l l' : Nat} (h : l < 2 ^ 31) (h' : l' < 2 ^ 31) : (if nI l' < nI l then nI l' else nI l) = nI (min l l') := by
  by_cases q : l' < l
  · rw [if_pos ((nI_ltI h' h).mpr q), Nat.min_eq_right (by omega)]
  · rw [if_neg (fun z => q ((nI_ltI h' h).mp z)), Nat.min_eq_left (by omega)]
theorem max_ite {g g' : Nat} (h : g < 2 ^ 31) (h' : g' < 2 ^ 31) : (if nI g < nI g' then nI g' else nI g) = nI (max g g') := by
  by_cases q : g < g'
  · rw [if_pos ((nI_ltI h h').mpr q), Nat.max_eq_right (by omega)]
  · rw [if_neg (fun z => q ((nI_ltI h h').mp z)), Nat.max_eq_left (by omega)]
theorem GH_uni {a b : Hp} (ha : GH a) (hb : GH b) (h : wN a + wN b ≤ 200) : GH (unI a b) ∧ wN (unI a b) = wN a + wN b := by
  obtain ⟨w, s, l, g, rfl, h1, h2, h3, h4, h5⟩ := ha
  obtain ⟨w', s', l', g', rfl, k1, k2, k3, k4, k5⟩ := hb
  have hw : wN (nI w, nI s, nI l, nI g) = w := nI_clamp (by omega)
  have hw' : wN (nI w', nI s', nI l', nI g') = w' := nI_clamp (by omega)
  rw [hw, hw'] at h ⊢
  have m1 : 1 * l ≤ w * l := Nat.mul_le_mul_right _ h1
  have m2 : 1 * l' ≤ w' * l' := Nat.mul_le_mul_right _ k1
  have m3 : w * g ≤ 200 * 9999 := Nat.mul_le_mul h2 h5
  have m4 : w' * g' ≤ 200 * 9999 := Nat.mul_le_mul k2 k5
  have e : unI (nI w, nI s, nI l, nI g) (nI w', nI s', nI l', nI g') = (nI (w + w'), nI (s + s'), nI (min l l'), nI (max g g')) := by
    show (nI w + nI w', nI s + nI s', (if nI l' < nI l then nI l' else nI l), (if nI g < nI g' then nI g' else nI g)) = _
    rw [nI_add, nI_add, min_ite (by omega) (by omega), max_ite (by omega) (by omega)]
  rw [e]
  refine ⟨⟨w + w', s + s', min l l', max g g', rfl, by omega, h, ?_, ?_, by omega⟩, nI_clamp (by omega)⟩
  · rw [Nat.add_mul]
    exact Nat.add_le_add (Nat.le_trans (Nat.mul_le_mul_left _ (Nat.min_le_left _ _)) h3) (Nat.le_trans (Nat.mul_le_mul_left _ (Nat.min_le_right _ _)) k3)
  · rw [Nat.add_mul]
    exact Nat.add_le_add (Nat.le_trans h4 (Nat.mul_le_mul_left _ (Nat.le_max_left _ _))) (Nat.le_trans k4 (Nat.mul_le_mul_left _ (Nat.le_max_right _ _)))
theorem mg_GH {f tot : Int32} : ∀ (r : List Hp) (a : Int32) (o : Hp), GH o → (∀ x ∈ r, GH x) → wN o + sumN r ≤ 200 → (∀ x ∈ mg f tot a o r, GH x) ∧ sumN (mg f tot a o r) = wN o + sumN r
  | [], _, o, ho, _, _ => ⟨fun x hx => by rw [mg, List.mem_singleton] at hx; rw [hx]; exact ho, rfl⟩
  | y :: r, a, o, ho, hr, hs => by
    have hy := hr y List.mem_cons_self
    have hr2 : ∀ x ∈ r, GH x := fun x hx => hr x (List.mem_cons_of_mem _ hx)
    rw [sumN] at hs ⊢
    unfold mg
    split
    · obtain ⟨hu, hw⟩ := GH_uni ho hy (by omega)
      obtain ⟨i1, i2⟩ := mg_GH r a (unI o y) hu hr2 (by rw [hw]; omega)
      exact ⟨i1, by rw [i2, hw]; omega⟩
    · obtain ⟨i1, i2⟩ := mg_GH r (a + h_w o) y hy hr2 (by omega)
      refine ⟨fun x hx => ?_, by rw [sumN, i2]⟩
      rcases List.mem_cons.mp hx with q | q
      · rw [q]; exact ho
      · exact i1 x q
theorem sumN_perm {a b : List Hp} (h : a.Perm b) : sumN a = sumN b := by
  induction h with
  | nil => rfl
  | cons x _ ih => show wN x + _ = wN x + _; rw [ih]
  | swap x y l => show wN y + (wN x + sumN l) = wN x + (wN y + sumN l); omega
  | trans _ _ h1 h2 => exact h1.trans h2
theorem sumN_app : ∀ (a b : List Hp), sumN (a ++ b) = sumN a + sumN b
  | [], b => (Nat.zero_add _).symm
  | x :: a, b => by show wN x + sumN (a ++ b) = wN x + sumN a + sumN b; rw [sumN_app a b]; omega
theorem packL_GH {f : Int32} {A : List Hp} (h : ∀ x ∈ A, GH x) (hs : sumN A ≤ 200) : (∀ x ∈ packL f A, GH x) ∧ sumN (packL f A) = sumN A := by
  have ho : ∀ x ∈ order A, GH x := fun x hx => h x (order_perm.mem_iff.mp hx)
  have hp := sumN_perm (order_perm (A := A))
  rw [← hp] at hs ⊢
  unfold packL
  revert ho hs
  generalize order A = B
  intro hs ho
  cases B with
  | nil => exact ⟨fun x hx => (by cases hx), rfl⟩
  | cons x r => exact mg_GH r 0 x (ho x List.mem_cons_self) (fun y hy => ho y (List.mem_cons_of_mem _ hy)) hs
theorem GH_unit {v : Int32} (h : Vn v) : GH (hunit v) ∧ wN (hunit v) = 1 := by
  obtain ⟨n, hn, rfl⟩ := h
  refine ⟨⟨1, n, n, n, ?_, by omega, by omega, by omega, by omega, hn⟩, ?_⟩
  · show ((1 : Int32), nI n, nI n, nI n) = _
    rw [show (1 : Int32) = nI 1 from by decide +kernel]
  · show (1 : Int32).toNatClampNeg = 1
    decide +kernel
theorem sumN_units : ∀ (B : List Int32), (∀ v ∈ B, Vn v) → (∀ x ∈ B.map hunit, GH x) ∧ sumN (B.map hunit) = B.length
  | [], _ => ⟨fun x hx => (by cases hx), rfl⟩
  | v :: B, h => by
    obtain ⟨i1, i2⟩ := sumN_units B (fun x hx => h x (List.mem_cons_of_mem _ hx))
    obtain ⟨u1, u2⟩ := GH_unit (h v List.mem_cons_self)
    refine ⟨fun x hx => ?_, ?_⟩
    · rcases List.mem_cons.mp hx with q | q
      · rw [q]; exact u1
      · exact i1 x q
    · show wN (hunit v) + sumN (B.map hunit) = B.length + 1
      rw [u2, i2]; omega
theorem wTot_sumN : ∀ (A : List Hp), (∀ x ∈ A, GH x) → lsum (A.map h_w) = nI (sumN A) ∧ sumN A ≤ 200 * A.length
  | [], _ => ⟨rfl, Nat.le_refl _⟩
  | x :: A, h => by
    obtain ⟨i1, i2⟩ := wTot_sumN A (fun y hy => h y (List.mem_cons_of_mem _ hy))
    obtain ⟨u1, u2, u3⟩ := wN_GH (h x List.mem_cons_self)
    refine ⟨?_, by rw [sumN, List.length_cons]; omega⟩
    show h_w x + lsum (A.map h_w) = nI (wN x + sumN A)
    rw [u1, i1, nI_add]
/-- what holds of a digest: its weights are as many as its values, everything within its range -/
def GD (D : Dg) : Prop := LI D ∧ (∀ x ∈ D.1, GH x) ∧ (∀ v ∈ D.2.1, Vn v) ∧ (∀ v ∈ D.2.2.1, Vn v)
theorem GD_sum {D : Dg} (h : GD D) : sumN D.1 + D.2.1.length = D.2.2.1.length := by
  obtain ⟨⟨l1, l2, l3, l4⟩, hA, -, -⟩ := h
  obtain ⟨a, b⟩ := wTot_sumN D.1 hA
  have hl : D.1.length ≤ 200 := by omega
  rw [dW, wTot_eq, a, nI_add] at l4
  exact (nI_eq (by omega) (by omega)).mp l4
theorem GD_all {D : Dg} (h : GD D) : (∀ x ∈ D.1 ++ D.2.1.map hunit, GH x) ∧ sumN (D.1 ++ D.2.1.map hunit) = D.2.2.1.length := by
  obtain ⟨u1, u2⟩ := sumN_units D.2.1 h.2.2.1
  refine ⟨fun x hx => ?_, by rw [sumN_app, u2, GD_sum h]⟩
  rcases List.mem_append.mp hx with q | q
  · exact h.2.1 x q
  · exact u1 x q
theorem GD_pk {f : Int32} {D : Dg} (h : GD D) : GD (pkD f D) := by
  obtain ⟨a, b⟩ := GD_all h
  refine ⟨LI_pk h.1, (packL_GH a (by rw [b]; exact h.1.2.1)).1, fun v hv => (by cases hv), h.2.2.2⟩
/-- a value comes into a digest of the model: its row of values keeps the order of coming -/
def rcvM (s0 s1 : Int32) (D : Dg) (v : Int32) : Dg :=
  ((if s1 ≤ nI D.2.1.length then pkD s0 D else D).1, (if s1 ≤ nI D.2.1.length then pkD s0 D else D).2.1 ++ [v], (if s1 ≤ nI D.2.1.length then pkD s0 D else D).2.2.1 ++ [v], (if s1 ≤ nI D.2.1.length then pkD s0 D else D).2.2.2)
theorem MS_of {f g : Nat → Int32} {X : SS} {d : Nat} {E : Dg} (hS : MS f X) (hX : XI X) (he : ∀ i, i < 2 + 1024 * d ∨ 2 + 1024 * (d + 1) ≤ i → g i = f i) (hD : MDg g d E) : MS g (setD X d E) := by
  obtain ⟨a, b, c⟩ := hS
  refine ⟨(he 0 (by omega)).trans a, (he 1 (by omega)).trans b, fun i hi => ?_⟩
  by_cases q : i = d
  · subst q
    rw [setD_i]
    exact hD
  · rw [setD_n q]
    obtain ⟨l1, l2, l3, -⟩ := hX.1 i hi
    exact (c i hi).congr (by omega) (by omega) (by omega) (fun j h1 h2 => he j (by omega))
def wr8 (σ : Me) (d j : Nat) (x : Hp) : Me := mu (mu (mu (mu σ 1 (2 + 1024 * d + (4 + 4 * j + 0)) x.1) 1 (2 + 1024 * d + (4 + 4 * j + 1)) x.2.1) 1 (2 + 1024 * d + (4 + 4 * j + 2)) x.2.2.1) 1 (2 + 1024 * d + (4 + 4 * j + 3)) x.2.2.2
theorem wr8_o {σ : Me} {d j i : Nat} {x : Hp} (h : i < 2 + 1024 * d + (4 + 4 * j) ∨ 2 + 1024 * d + (4 + 4 * j) + 4 ≤ i) : wr8 σ d j x 1 i = σ 1 i := by
  unfold wr8
  rw [mu_i (by omega), mu_i (by omega), mu_i (by omega), mu_i (by omega)]
theorem wr8_k {σ : Me} {d j k : Nat} {x : Hp} (h : k ≠ 1) : wr8 σ d j x k = σ k := by
  unfold wr8
  rw [mu_r h, mu_r h, mu_r h, mu_r h]
theorem wr8_s {σ : Me} {d j : Nat} {x : Hp} : hpS (wr8 σ d j x 1) d j = x := by
  unfold hpS wr8
  rw [mu_i (by omega), mu_i (by omega), mu_i (by omega), mu_s, mu_i (by omega), mu_i (by omega), mu_s, mu_i (by omega), mu_s, mu_s]
theorem wr8_n {σ : Me} {d j i : Nat} {x : Hp} (h : i ≠ j) : hpS (wr8 σ d j x 1) d i = hpS (σ 1) d i := by
  unfold hpS
  rw [wr8_o (by omega), wr8_o (by omega), wr8_o (by omega), wr8_o (by omega)]
/-- all but the state's row, the found heaps and their number is as it was -/
def Oq (σ u : Me) : Prop := ∀ k i, k ≠ 1 → k ≠ 4 → k ≠ 5 → k ≠ 6 → k ≠ 7 → ¬ (k = 0 ∧ i = 2) → u k i = σ k i
theorem Oq.tr {σ u v : Me} (a : Oq σ u) (b : Oq u v) : Oq σ v := fun k i h1 h4 h5 h6 h7 h => (b k i h1 h4 h5 h6 h7 h).trans (a k i h1 h4 h5 h6 h7 h)
theorem Ot.q {σ u : Me} (a : Ot σ u) : Oq σ u := fun k i _ h4 h5 h6 h7 h => a k i h4 h5 h6 h7 h
theorem Oq.of1 {σ u : Me} (a : ∀ k, k ≠ 1 → u k = σ k) : Oq σ u := fun k i h1 _ _ _ _ _ => by rw [a k h1]
theorem Oq.rf {σ : Me} : Oq σ σ := fun _ _ _ _ _ _ _ _ => rfl

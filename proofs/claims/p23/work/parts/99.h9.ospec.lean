/-! the k-th value in order, by counting -/
def cl (V : List Int32) (x : Int32) : Nat := V.countP (fun v => decide (v < x))
def ce (V : List Int32) (x : Int32) : Nat := V.countP (fun v => decide (v = x))
def cle (V : List Int32) (x : Int32) : Nat := V.countP (fun v => decide (v ≤ x))
def clt (V : List Int32) (x : Int32) : Nat → Nat
  | 0 => 0
  | j + 1 => clt V x j + (if V.getD j 0 < x then 1 else 0)
def ceq (V : List Int32) (x : Int32) : Nat → Nat
  | 0 => 0
  | j + 1 => ceq V x j + (if V.getD j 0 = x then 1 else 0)
theorem clt_take {V : List Int32} {x : Int32} : ∀ j, j ≤ V.length → clt V x j = cl (V.take j) x
  | 0, _ => rfl
  | j + 1, h => by
    rw [clt, clt_take j (by omega), ← take_snoc (d := (0 : Int32)) h, cl, cl, List.countP_append]
    congr 1
    by_cases q : V.getD j 0 < x
    · rw [if_pos q, List.countP_cons_of_pos (by exact decide_eq_true q)]; rfl
    · rw [if_neg q, List.countP_cons_of_neg (by simpa using q)]; rfl
theorem ceq_take {V : List Int32} {x : Int32} : ∀ j, j ≤ V.length → ceq V x j = ce (V.take j) x
  | 0, _ => rfl
  | j + 1, h => by
    rw [ceq, ceq_take j (by omega), ← take_snoc (d := (0 : Int32)) h, ce, ce, List.countP_append]
    congr 1
    by_cases q : V.getD j 0 = x
    · rw [if_pos q, List.countP_cons_of_pos (by exact decide_eq_true q)]; rfl
    · rw [if_neg q, List.countP_cons_of_neg (by simpa using q)]; rfl
theorem clt_len {V : List Int32} {x : Int32} : clt V x V.length = cl V x := by rw [clt_take _ (Nat.le_refl _), List.take_length]
theorem ceq_len {V : List Int32} {x : Int32} : ceq V x V.length = ce V x := by rw [ceq_take _ (Nat.le_refl _), List.take_length]
theorem cl_ce : ∀ (V : List Int32) (x : Int32), cl V x + ce V x = cle V x
  | [], _ => rfl
  | v :: r, x => by
    have ih := cl_ce r x
    unfold cl ce cle at ih ⊢
    rw [List.countP_cons, List.countP_cons, List.countP_cons]
    by_cases h1 : v < x
    · have h2 : ¬ v = x := fun z => by rw [z] at h1; exact Int32.lt_irrefl h1
      have h3 : v ≤ x := Int32.le_of_lt h1
      simp only [decide_eq_true h1, decide_eq_false h2, decide_eq_true h3]
      simp
      omega
    · by_cases h2 : v = x
      · have h3 : v ≤ x := by rw [h2]; exact Int32.le_rfl
        simp only [decide_eq_false h1, decide_eq_true h2, decide_eq_true h3]
        simp
        omega
      · have h3 : ¬ v ≤ x := fun z => h2 (Int32.le_antisymm z (Int32.not_lt.mp h1))
        simp only [decide_eq_false h1, decide_eq_false h2, decide_eq_false h3]
        simp
        omega
theorem up_split {S : List Int32} {k : Nat} (hu : Up S) (hk : k < S.length) : ∃ A B, S = A ++ S.getD k 0 :: B ∧ A.length = k ∧ (∀ a ∈ A, a ≤ S.getD k 0) ∧ ∀ b ∈ B, S.getD k 0 ≤ b := by
  have e : S = S.take k ++ S.getD k 0 :: S.drop (k + 1) := by rw [← drop_getD (d := (0 : Int32)) hk, List.take_append_drop]
  refine ⟨S.take k, S.drop (k + 1), e, by rw [List.length_take]; omega, fun a ha => ?_, fun b hb => ?_⟩
  · rw [e] at hu
    exact (List.pairwise_append.mp hu).2.2 a ha _ List.mem_cons_self
  · rw [e] at hu
    exact (List.pairwise_cons.mp (List.pairwise_append.mp hu).2.1).1 b hb
theorem or_1 {S : List Int32} {k : Nat} {y : Int32} (hu : Up S) (hk : k < S.length) (h1 : cl S y ≤ k) (h2 : k < cle S y) : S.getD k 0 = y := by
  obtain ⟨A, B, e, hl, ha, hb⟩ := up_split hu hk
  generalize S.getD k 0 = x at *
  rw [e] at h1 h2
  unfold cl at h1
  unfold cle at h2
  rw [List.countP_append, List.countP_cons] at h1 h2
  by_cases c1 : y < x
  · have z : B.countP (fun v => decide (v ≤ y)) = 0 := List.countP_eq_zero.mpr (fun b hb2 => by
      simp only [decide_eq_true_iff]
      exact Int32.not_le.mpr (Int32.lt_of_lt_of_le c1 (hb b hb2)))
    have z2 := List.countP_le_length (p := fun v => decide (v ≤ y)) (l := A)
    rw [z, decide_eq_false (Int32.not_le.mpr c1)] at h2
    simp at h2
    omega
  · by_cases c2 : x < y
    · have z : A.countP (fun v => decide (v < y)) = A.length := List.countP_eq_length.mpr (fun a ha2 => by
        simp only [decide_eq_true_iff]
        exact Int32.lt_of_le_of_lt (ha a ha2) c2)
      rw [z, decide_eq_true c2] at h1
      simp at h1
      omega
    · exact Int32.le_antisymm (Int32.not_lt.mp c1) (Int32.not_lt.mp c2)
theorem or_2 {S : List Int32} {k : Nat} (hu : Up S) (hk : k < S.length) : cl S (S.getD k 0) ≤ k ∧ k < cle S (S.getD k 0) := by
  obtain ⟨A, B, e, hl, ha, hb⟩ := up_split hu hk
  generalize S.getD k 0 = x at *
  rw [e]
  unfold cl cle
  rw [List.countP_append, List.countP_cons, List.countP_append, List.countP_cons]
  have z1 : B.countP (fun v => decide (v < x)) = 0 := List.countP_eq_zero.mpr (fun b hb2 => by
    simp only [decide_eq_true_iff]
    exact Int32.not_lt.mpr (hb b hb2))
  have z2 := List.countP_le_length (p := fun v => decide (v < x)) (l := A)
  have z3 : A.countP (fun v => decide (v ≤ x)) = A.length := List.countP_eq_length.mpr (fun a ha2 => by
    simp only [decide_eq_true_iff]
    exact ha a ha2)
  rw [z1, z3, decide_eq_false (Int32.lt_irrefl), decide_eq_true (Int32.le_rfl (a := x))]
  simp
  omega
theorem cl_srt {V : List Int32} {x : Int32} : cl (srt V) x = cl V x := (srt_Up (V := V)).2.countP_eq _
theorem cle_srt {V : List Int32} {x : Int32} : cle (srt V) x = cle V x := (srt_Up (V := V)).2.countP_eq _
theorem or_eq {V : List Int32} {k i : Nat} (hk : k < V.length) (h1 : cl V (V.getD i 0) ≤ k) (h2 : k < cl V (V.getD i 0) + ce V (V.getD i 0)) : V.getD i 0 = (srt V).getD k 0 := by
  rw [cl_ce] at h2
  exact (or_1 (srt_Up (V := V)).1 (by rw [srt_len]; exact hk) (by rw [cl_srt]; exact h1) (by rw [cle_srt]; exact h2)).symm
theorem or_no {V : List Int32} {k : Nat} (hk : k < V.length) (h : ∀ j, j < V.length → ¬ (cl V (V.getD j 0) ≤ k ∧ k < cl V (V.getD j 0) + ce V (V.getD j 0))) : False := by
  obtain ⟨hu, hp⟩ := srt_Up (V := V)
  have hk2 : k < (srt V).length := by rw [srt_len]; exact hk
  have hm : (srt V).getD k 0 ∈ V := hp.mem_iff.mp (mem_getD hk2)
  obtain ⟨j, hj, e⟩ := List.getElem_of_mem hm
  have e2 : V.getD j 0 = (srt V).getD k 0 := by rw [List.getD_eq_getElem?_getD, List.getElem?_eq_getElem hj, e]; rfl
  have h3 := or_2 hu hk2
  rw [cl_srt, cle_srt] at h3
  refine h j hj ?_
  rw [e2, cl_ce]
  exact h3
theorem q_fin {x s w p s' w' p' T : Nat} (h : x = seg s w p s' w' p' T) (hw : 0 < w) (hw' : 0 < w') (hp : p < p') (b1 : s ≤ 2000000) (b2 : w ≤ 200) (b3 : w' ≤ 200) (b4 : p' ≤ 200000) (b5 : s' ≤ 2000000) (b6 : T ≤ 200000) (b7 : x ≤ 9999) :
    ¬ nJ (s * w' * (2 * p' - 2 * p) + (s' * w - s * w') * (2 * T - 2 * p)) < nJ (x * (w * w' * (2 * p' - 2 * p))) ∧ ¬ nJ ((x + 1) * (w * w' * (2 * p' - 2 * p))) ≤ nJ (s * w' * (2 * p' - 2 * p) + (s' * w - s * w') * (2 * T - 2 * p)) := by
  have e1 : 2 * p' - 2 * p = 2 * (p' - p) := by omega
  have e2 : 2 * T - 2 * p = 2 * (T - p) := by omega
  have e3 : s * w' * (2 * p' - 2 * p) + (s' * w - s * w') * (2 * T - 2 * p) = 2 * (s * w' * (p' - p) + (s' * w - s * w') * (T - p)) := by
    rw [e1, e2, Nat.mul_left_comm _ 2, Nat.mul_left_comm _ 2, ← Nat.mul_add]
  have e4 : w * w' * (2 * p' - 2 * p) = 2 * (w * w' * (p' - p)) := by rw [e1, Nat.mul_left_comm]
  have d0 : 0 < w * w' * (p' - p) := Nat.mul_pos (Nat.mul_pos hw hw') (by omega)
  have d1 : w * w' * (p' - p) ≤ 200 * 200 * 200000 := Nat.mul_le_mul (Nat.mul_le_mul b2 b3) (by omega)
  have n1 : s * w' * (p' - p) ≤ 2000000 * 200 * 200000 := Nat.mul_le_mul (Nat.mul_le_mul b1 b3) (by omega)
  have n2 : (s' * w - s * w') * (T - p) ≤ 2000000 * 200 * 200000 := Nat.mul_le_mul (Nat.le_trans (Nat.sub_le _ _) (Nat.mul_le_mul b5 b2)) (by omega)
  rw [seg] at h
  rw [e3, e4]
  generalize s * w' * (p' - p) + (s' * w - s * w') * (T - p) = N at *
  generalize w * w' * (p' - p) = D at *
  have m1 : x * D ≤ N := by rw [h]; exact Nat.div_mul_le_self N D
  have m2 : N < (x + 1) * D := by rw [h, Nat.mul_comm]; exact Nat.lt_mul_div_succ N d0
  have m3 : x * D ≤ 9999 * (200 * 200 * 200000) := Nat.mul_le_mul b7 d1
  have m4 : (x + 1) * D ≤ 10000 * (200 * 200 * 200000) := Nat.mul_le_mul (by omega) d1
  rw [show x * (2 * D) = 2 * (x * D) from Nat.mul_left_comm _ _ _, show (x + 1) * (2 * D) = 2 * ((x + 1) * D) from Nat.mul_left_comm _ _ _]
  generalize x * D = Y at *
  generalize (x + 1) * D = Z at *
  refine ⟨fun z => ?_, fun z => ?_⟩
  · have := (nJ_lt (by omega) (by omega)).mp z
    omega
  · have := (nJ_le (by omega) (by omega)).mp z
    omega

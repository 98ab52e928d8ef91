/-! the law's turns: what holds at the beginning of each -/
def IV (X : SS) (μ : Me) : Prop := FX X ∧ (∀ i, i < 2 → LD μ i (X.2.2 i)) ∧ ((X.2.2 2).1.length = 0 ∧ (X.2.2 2).2.2.1.length = 0) ∧ μ 0 0 = X.1 ∧ μ 0 1 = X.2.1
def BD (X : SS) : Prop := ∀ i, i < 2 → (X.2.2 i).1.length + (X.2.2 i).2.1.length ≤ 16 ∧ (X.2.2 i).2.2.1.length ≤ 40
theorem rcvM_sz {s0 s1 v : Int32} {D : Dg} : (rcvM s0 s1 D v).1.length + (rcvM s0 s1 D v).2.1.length ≤ D.1.length + D.2.1.length + 1 := by
  have hp := pkD_len (f := s0) (D := D)
  unfold rcvM
  by_cases q : s1 ≤ nI D.2.1.length
  · rw [if_pos q]
    show (pkD s0 D).1.length + ([] ++ [v] : List Int32).length ≤ _
    rw [List.nil_append, List.length_singleton]
    omega
  · rw [if_neg q]
    show D.1.length + (D.2.1 ++ [v]).length ≤ _
    rw [List.length_append, List.length_singleton]
    omega
theorem rcvMN_sz {s0 s1 v : Int32} {D : Dg} : ∀ k, (rcvMN s0 s1 D v k).1.length + (rcvMN s0 s1 D v k).2.1.length ≤ D.1.length + D.2.1.length + k
  | 0 => Nat.le_refl _
  | k + 1 => by
    have h1 := rcvMN_sz (s0 := s0) (s1 := s1) (v := v) (D := D) k
    have h2 := rcvM_sz (s0 := s0) (s1 := s1) (v := v) (D := rcvMN s0 s1 D v k)
    rw [rcvMN]
    omega
theorem LD_ne {μ u : Me} {d i : Nat} {D : Dg} (h : LD μ i D) (hi : i < 2) (hd : d < 2) (hne : i ≠ d) (ho : ∀ q, q ≠ 1 + d → q ≠ 3 + d → q ≠ 5 + d → q ≠ 7 + d → u q = μ q) : LD u i D :=
  h.congr (ho _ (by omega) (by omega) (by omega) (by omega)) (ho _ (by omega) (by omega) (by omega) (by omega)) (ho _ (by omega) (by omega) (by omega) (by omega)) (ho _ (by omega) (by omega) (by omega) (by omega))
/-- one digest is changed -/
theorem IV_setD {X : SS} {μ u : Me} {d : Nat} {D : Dg} (h : IV X μ) (hd : d < 2) (hF : FX (setD X d D)) (hD : LD u d D) (ho : ∀ q, q ≠ 1 + d → q ≠ 3 + d → q ≠ 5 + d → q ≠ 7 + d → u q = μ q) : IV (setD X d D) u := by
  obtain ⟨-, h2, h3, h4, h5⟩ := h
  have e0 := ho 0 (by omega) (by omega) (by omega) (by omega)
  refine ⟨hF, fun i hi => ?_, ?_, ?_, ?_⟩
  · by_cases q : i = d
    · subst q
      rw [setD_i]
      exact hD
    · rw [setD_n q]
      exact LD_ne (h2 i hi) hi hd q ho
  · rw [setD_n (by omega)]
    exact h3
  · rw [e0]
    exact h4
  · rw [e0]
    exact h5
theorem BD_setD {X : SS} {d : Nat} {D : Dg} (h : BD X) (hs : D.1.length + D.2.1.length ≤ 16) (hv : D.2.2.1.length ≤ 40) : BD (setD X d D) := fun i hi => by
  by_cases q : i = d
  · subst q
    rw [setD_i]
    exact ⟨hs, hv⟩
  · rw [setD_n q]
    exact h i hi
theorem IV_set {X : SS} {μ : Me} {w : Nat} {v : Int32} (h : IV X μ) (hw : w < 2) (hF : FX (setS X w v)) : IV (setS X w v) (mu μ 0 w v) := by
  obtain ⟨-, h2, h3, h4, h5⟩ := h
  have e2 : (setS X w v).2.2 = X.2.2 := by
    unfold setS
    split <;> rfl
  refine ⟨hF, fun i hi => ?_, ?_, ?_, ?_⟩
  · rw [e2]
    exact (h2 i hi).congr (mu_r (by omega)) (mu_r (by omega)) (mu_r (by omega)) (mu_r (by omega))
  · rw [e2]
    exact h3
  · rcases (show w = 0 ∨ w = 1 by omega) with rfl | rfl
    · exact mu_s
    · rw [mu_i (by omega)]
      exact h4
  · rcases (show w = 0 ∨ w = 1 by omega) with rfl | rfl
    · rw [mu_i (by omega)]
      exact h5
    · exact mu_s
theorem BD_set {X : SS} {w : Nat} {v : Int32} (h : BD X) : BD (setS X w v) := by
  have e2 : (setS X w v).2.2 = X.2.2 := by
    unfold setS
    split <;> rfl
  unfold BD
  rw [e2]
  exact h
theorem set_get {X : SS} {μ : Me} {w : Nat} (h : IV X μ) (hw : w < 2) : μ 0 w = [X.1, X.2.1].getD w 0 := by
  obtain ⟨-, -, -, h4, h5⟩ := h
  rcases (show w = 0 ∨ w = 1 by omega) with rfl | rfl
  · exact h4
  · exact h5
/-- two digests are put together: the heaps behind each other -/
theorem HA_jn {f g g2 : Nat → Int32} {A B : List Hp} (hA : HA g A) (hB : HA g2 B) (h1 : ∀ i, i < 4 * A.length → f i = g i) (h2 : ∀ i, i < 4 * B.length → f (4 * A.length + i) = g2 i) : HA f (A ++ B) := fun i hi => by
  rw [List.length_append] at hi
  by_cases q : i < A.length
  · rw [getD_app_l q, ← hA i q]
    unfold hp9
    rw [h1 _ (by omega), h1 _ (by omega), h1 _ (by omega), h1 _ (by omega)]
  · obtain ⟨j, rfl⟩ : ∃ j, i = A.length + j := ⟨i - A.length, by omega⟩
    have e : (A ++ B).getD (A.length + j) hd0 = B.getD j hd0 := by
      rw [List.getD_eq_getElem?_getD, List.getElem?_append_right (by omega), Nat.add_sub_cancel_left, List.getD_eq_getElem?_getD]
    rw [e, ← hB j (by omega)]
    unfold hp9
    rw [show 4 * (A.length + j) = 4 * A.length + 4 * j by omega, Nat.add_assoc, Nat.add_assoc, Nat.add_assoc, h2 _ (by omega), h2 _ (by omega), h2 _ (by omega), h2 _ (by omega)]
theorem RA_cons {f : Nat → Int32} {V W : List Int32} {k : Nat} (h : RA f (V ++ W.take k)) (hk : k < W.length) : RA (fu f (V.length + k) (W.getD k 0)) (V ++ W.take (k + 1)) := by
  have := RA_push (v := W.getD k 0) h
  rw [List.length_append, List.length_take, Nat.min_eq_left (by omega), List.append_assoc, take_snoc (d := (0 : Int32)) hk] at this
  exact this
theorem IV_join {X : SS} {μ u : Me} {d e : Nat} (h : IV X μ) (hd : d < 2) (he : e < 2) (hne : e ≠ d) (hF : FX (setD (setD X e (pkD X.1 (X.2.2 e))) d (toM X.1 (X.2.2 e) (X.2.2 d) (X.2.2 e).2.2.1.length))) (hD : LD u d (toM X.1 (X.2.2 e) (X.2.2 d) (X.2.2 e).2.2.1.length)) (hE : LD u e (pkD X.1 (X.2.2 e))) (h0 : u 0 = μ 0) : IV (setD (setD X e (pkD X.1 (X.2.2 e))) d (toM X.1 (X.2.2 e) (X.2.2 d) (X.2.2 e).2.2.1.length)) u := by
  obtain ⟨-, h2, h3, h4, h5⟩ := h
  refine ⟨hF, fun i hi => ?_, ?_, ?_, ?_⟩
  · by_cases q : i = d
    · subst q
      rw [setD_i]
      exact hD
    · rw [setD_n q, show i = e by omega, setD_i]
      exact hE
  · rw [setD_n (by omega), setD_n (by omega)]
    exact h3
  · rw [h0]
    exact h4
  · rw [h0]
    exact h5
section LAWT
variable {l : Launch} {Lc : Lay} {X : SS} {hh : List SS}
theorem t_add (hF : FX X) {i : Nat} (hi : i < 3) {v n : Nat} (hv : v ≤ 9999) (h1 : 1 ≤ n) (h2 : n ≤ 20) (h3 : (X.2.2 i).2.2.1.length + n ≤ 200) : ∀ σ, CR σ (clX X) (hh.map clX) [] → Mg l Lc yX7_add (Cond.code yX7_add cX7_add 6 (some FieldType.int) :: qA) rX7_add [.ref (ad Lc 244), .int (nI i), .int (nI v), .int (nI n)] σ (fun r u => r = some (.int (nI ((X.2.2 i).2.2.1.length + n))) ∧ CR u (clX (setD X i (rcvMN X.1 X.2.1 (X.2.2 i) (nI v) n))) ((recH hh X).map clX) []) := fun σ hc => by
  have h9 := c_X7_add l Lc σ hc (XI_cl hF.1) hi (nI v) (nI n)
  have e : mAdd1 X hh i (nI v) (nI n) = (nI ((X.2.2 i).2.2.1.length + n), setD X i (rcvMN X.1 X.2.1 (X.2.2 i) (nI v) n), recH hh X) := by
    unfold mAdd1
    rw [if_neg (rI (Nat.zero_le _) hv (by omega)), if_neg (rI h1 h2 (by omega)), nI_add, if_neg (fun z => absurd ((nI_ltI (by omega) (by omega)).mp z) (by omega)), nI_clamp (by omega)]
  rw [eq_add hF.1 hi, e] at h9
  exact h9
theorem t_pack (hF : FX X) {i : Nat} (hi : i < 3) : ∀ σ, CR σ (clX X) (hh.map clX) [] → Mg l Lc yX7_pack (Cond.code yX7_pack cX7_pack 3 (some FieldType.int) :: qA) rX7_pack [.ref (ad Lc 244), .int (nI i)] σ (fun r u => r = some (.int (nI (pkD X.1 (X.2.2 i)).1.length)) ∧ CR u (clX (setD X i (pkD X.1 (X.2.2 i)))) ((recH hh X).map clX) []) := fun σ hc => by
  have h9 := c_X7_pack l Lc σ hc (XI_cl hF.1) hi
  rw [eq_pack] at h9
  exact h9
theorem t_sett (hF : FX X) {w v : Nat} (hw : w < 2) (h1 : 1 ≤ v) (h2 : v ≤ 20) : ∀ σ, CR σ (clX X) (hh.map clX) [] → Mg l Lc yX7_set (Cond.code yX7_set cX7_set 4 (some FieldType.int) :: qA) rX7_set [.ref (ad Lc 244), .int (nI w), .int (nI v)] σ (fun r u => r = some (.int ([X.1, X.2.1].getD w 0)) ∧ CR u (clX (setS X w (nI v))) ((recH hh X).map clX) []) := fun σ hc => by
  have h9 := c_X7_set l Lc σ hc (XI_cl hF.1) (nI w) (nI v)
  have e : cSet X hh (nI w) (nI v) = ([X.1, X.2.1].getD w 0, setS X w (nI v), recH hh X) := by
    unfold cSet
    rw [if_neg (rI (Nat.zero_le _) (show w ≤ 1 by omega) (by omega)), if_neg, nI_clamp (by omega)]
    intro z
    apply z
    refine ⟨lI _ _ (by omega) (by omega) h1, ?_⟩
    split
    · exact lI _ _ (by omega) (by omega) (by omega)
    · exact lI _ _ (by omega) (by omega) h2
  rw [eq_set, e] at h9
  exact h9
theorem t_join (hF : FX X) {i j : Nat} (hi : i < 3) (hj : j < 3) (hne : i ≠ j) (h3 : (X.2.2 i).2.2.1.length + (X.2.2 j).2.2.1.length ≤ 200) : ∀ σ, CR σ (clX X) (hh.map clX) [] → Mg l Lc yX7_join (Cond.code yX7_join cX7_join 5 (some FieldType.int) :: qA) rX7_join [.ref (ad Lc 244), .int (nI i), .int (nI j)] σ (fun r u => r = some (.int (nI ((X.2.2 j).2.2.1.length + (X.2.2 i).2.2.1.length))) ∧ CR u (clX (setD (setD X i (pkD X.1 (X.2.2 i))) j (toM X.1 (X.2.2 i) (X.2.2 j) (X.2.2 i).2.2.1.length))) ((recH hh X).map clX) []) := fun σ hc => by
  have h9 := c_X7_join l Lc σ hc (XI_cl hF.1) hi hj
  have e : mJoin1 X hh i j = (nI ((X.2.2 j).2.2.1.length + (X.2.2 i).2.2.1.length), setD (setD X i (pkD X.1 (X.2.2 i))) j (toM X.1 (X.2.2 i) (X.2.2 j) (X.2.2 i).2.2.1.length), recH hh X) := by
    unfold mJoin1
    rw [if_neg hne, if_neg (by omega)]
  rw [eq_join hF.1 hi hj, e] at h9
  exact h9
theorem t_cnt0 (hF : FX X) (h2 : (X.2.2 2).2.2.1.length = 0) : ∀ σ, CR σ (clX X) (hh.map clX) [] → Mg l Lc yX7_count (Cond.code yX7_count cX7_count 2 (some FieldType.int) :: qA) rX7_count_0 [.ref (ad Lc 244), .int (nI 0)] σ (fun r u => r = some (.int (nI ((X.2.2 0).2.2.1.length + (X.2.2 1).2.2.1.length))) ∧ CR u (clX X) (hh.map clX) []) := fun σ hc => by
  have h9 := c_X7_count_0 l Lc σ hc (XI_cl hF.1)
  have e : ∀ i, dW ((clX X).2.2 i).1 ((clX X).2.2 i).2.1 = dW (X.2.2 i).1 (X.2.2 i).2.1 := fun i => rfl
  rw [e, e, e, (hF.1.1 0 (by omega)).1.2.2.2, (hF.1.1 1 (by omega)).1.2.2.2, (hF.1.1 2 (by omega)).1.2.2.2, nI_add, nI_add, h2, Nat.add_zero] at h9
  exact h9
theorem t_cnt1 (hF : FX X) (h2 : (X.2.2 2).1.length = 0) : ∀ σ, CR σ (clX X) (hh.map clX) [] → Mg l Lc yX7_count (Cond.code yX7_count cX7_count 2 (some FieldType.int) :: qA) rX7_count_1 [.ref (ad Lc 244), .int (nI 1)] σ (fun r u => r = some (.int (nI ((X.2.2 0).1.length + (X.2.2 1).1.length))) ∧ CR u (clX X) (hh.map clX) []) := fun σ hc => by
  have h9 := c_X7_count_1 l Lc σ hc (XI_cl hF.1)
  have e : ((clX X).2.2 0).1.length + ((clX X).2.2 1).1.length + ((clX X).2.2 2).1.length = (X.2.2 0).1.length + (X.2.2 1).1.length := by
    show (X.2.2 0).1.length + (X.2.2 1).1.length + (X.2.2 2).1.length = _
    rw [h2, Nat.add_zero]
  rw [e] at h9
  exact h9
theorem t_cnt20 (hF : FX X) : ∀ σ, CR σ (clX X) (hh.map clX) [] → Mg l Lc yX7_count (Cond.code yX7_count cX7_count 2 (some FieldType.int) :: qA) rX7_count_20 [.ref (ad Lc 244), .int (nI 20)] σ (fun r u => r = some (.int X.1) ∧ CR u (clX X) (hh.map clX) []) := fun σ hc => c_X7_count_20 l Lc σ hc (XI_cl hF.1)
theorem t_cnt21 (hF : FX X) : ∀ σ, CR σ (clX X) (hh.map clX) [] → Mg l Lc yX7_count (Cond.code yX7_count cX7_count 2 (some FieldType.int) :: qA) rX7_count_21 [.ref (ad Lc 244), .int (nI 21)] σ (fun r u => r = some (.int X.2.1) ∧ CR u (clX X) (hh.map clX) []) := fun σ hc => c_X7_count_21 l Lc σ hc (XI_cl hF.1)
/-! what the calls keep -/
theorem FX_add (hF : FX X) {i : Nat} (hi : i < 3) {v n : Nat} (hv : v ≤ 9999) (h3 : (X.2.2 i).2.2.1.length + n ≤ 200) : FX (setD X i (rcvMN X.1 X.2.1 (X.2.2 i) (nI v) n)) :=
  FX_setD hF (GD_rcvMN (hF.1.1 i hi) hF.1.2 ⟨v, hv, rfl⟩ n h3).1 (RD_rcvMN (hF.2 i hi).1 n) (DS_rcvMN (hF.2 i hi).2 n)
theorem FX_pack (hF : FX X) {i : Nat} (hi : i < 3) : FX (setD X i (pkD X.1 (X.2.2 i))) := FX_setD hF (GD_pk (hF.1.1 i hi)) (RD_pk (hF.2 i hi).1) (DS_pk (hF.2 i hi).2)
theorem FX_set (hF : FX X) {w v : Nat} (hw : w < 2) (h2 : v ≤ 20) : FX (setS X w (nI v)) := by
  rcases (show w = 0 ∨ w = 1 by omega) with rfl | rfl
  · exact ⟨⟨hF.1.1, hF.1.2⟩, hF.2⟩
  · exact ⟨⟨hF.1.1, lI v 20 (by omega) (by omega) h2⟩, hF.2⟩
theorem FX_join (hF : FX X) {i j : Nat} (hi : i < 3) (hj : j < 3) (h3 : (X.2.2 j).2.2.1.length + (X.2.2 i).2.2.1.length ≤ 200) : FX (setD (setD X i (pkD X.1 (X.2.2 i))) j (toM X.1 (X.2.2 i) (X.2.2 j) (X.2.2 i).2.2.1.length)) :=
  FX_setD (FX_pack hF hi) (GD_toM (hF.1.1 j hj) (hF.1.1 i hi) h3) (RD_toM (hF.2 j hj).1 (hF.2 i hi).1) (DS_toM (hF.2 j hj).2 (hF.2 i hi).2)
end LAWT

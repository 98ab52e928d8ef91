/-! putting heaps together in the law's arrays -/
theorem HA.w2 {f : Nat → Int32} {A : List Hp} (h : HA f A) {i k : Nat} (e : i = 4 * k) (hk : k < A.length) : f i = h_w (A.getD k hd0) := by rw [e]; exact h.w hk
theorem HA.s2 {f : Nat → Int32} {A : List Hp} (h : HA f A) {i k : Nat} (e : i = 4 * k + 1) (hk : k < A.length) : f i = h_s (A.getD k hd0) := by rw [e]; exact h.s hk
theorem HA.l2 {f : Nat → Int32} {A : List Hp} (h : HA f A) {i k : Nat} (e : i = 4 * k + 2) (hk : k < A.length) : f i = h_l (A.getD k hd0) := by rw [e]; exact h.l hk
theorem HA.g2 {f : Nat → Int32} {A : List Hp} (h : HA f A) {i k : Nat} (e : i = 4 * k + 3) (hk : k < A.length) : f i = h_g (A.getD k hd0) := by rw [e]; exact h.g hk
theorem bs_no {f : Nat → Int32} {B : List Hp} {k : Nat} (h : HA f (bst B k)) (hk : k + 1 < B.length) (c : ¬ gtH (hp9 f k) (hp9 f (k + 1)) = true) : HA f (bst B (k + 1)) := by
  have hl := bst_len (B := B) k
  rw [h k (by omega), h (k + 1) (by omega)] at c
  rw [bst, if_neg c]
  exact h
theorem bs_yes {f : Nat → Int32} {B : List Hp} {k : Nat} (h : HA f (bst B k)) (hk : k + 1 < B.length) (c : gtH (hp9 f k) (hp9 f (k + 1)) = true) : HA (swf f k (k + 1)) (bst B (k + 1)) := by
  have hl := bst_len (B := B) k
  rw [h k (by omega), h (k + 1) (by omega)] at c
  rw [bst, if_pos c]
  exact HA_swp h (by omega) (by omega)
theorem pk_start {f : Int32} {A : List Hp} : A.length = 0 ∧ A.length = 0 ∨ 0 < A.length ∧ packL f A = (order A).take 0 ++ mg f (wTot (order A)) (nI 0) ((order A).getD 0 hd0) ((order A).drop (0 + 1)) := by
  rcases Nat.eq_zero_or_pos A.length with q | q
  · exact Or.inl ⟨q, q⟩
  · have hl := (order_perm (A := A)).length_eq
    exact Or.inr ⟨q, by rw [packL, mg_start (by omega), nI_0]⟩
theorem pk_end {f T ah : Int32} {A C : List Hp} {lf o : Nat} (hC : C.length = lf) (h : A.length = 0 ∧ lf = 0 ∨ o < lf ∧ packL f A = C.take o ++ mg f T ah (C.getD o hd0) (C.drop (o + 1))) (hc : lf ≤ o + 1) : packL f A = C := by
  rcases h with ⟨h1, h2⟩ | ⟨h1, h2⟩
  · rw [List.length_eq_zero_iff.mp h1, List.length_eq_zero_iff.mp (hC.trans h2)]
    rfl
  · rw [h2, List.drop_of_length_le (by omega), mg, take_snoc (d := hd0) (by omega), List.take_of_length_le (by omega)]
theorem pk_mid {f T ah : Int32} {A C : List Hp} {lf o : Nat} (h : A.length = 0 ∧ lf = 0 ∨ o < lf ∧ packL f A = C.take o ++ mg f T ah (C.getD o hd0) (C.drop (o + 1))) (hc : o + 1 < lf) : packL f A = C.take o ++ mg f T ah (C.getD o hd0) (C.drop (o + 1)) := by
  rcases h with ⟨-, h2⟩ | ⟨-, h2⟩
  · omega
  · exact h2
theorem pl_next {f T ah : Int32} {A C : List Hp} {o : Nat} (hc : o + 1 < C.length) (h : packL f A = C.take o ++ mg f T ah (C.getD o hd0) (C.drop (o + 1))) (hw : ¬ (h_w (C.getD o hd0) + h_w (C.getD (o + 1) hd0)) * T * f ≤ (nI 2 * ah + (h_w (C.getD o hd0) + h_w (C.getD (o + 1) hd0))) * (nI 2 * T - nI 2 * ah - (h_w (C.getD o hd0) + h_w (C.getD (o + 1) hd0)))) :
    packL f A = C.take (o + 1) ++ mg f T (ah + h_w (C.getD o hd0)) (C.getD (o + 1) hd0) (C.drop (o + 1 + 1)) := by
  rw [h, drop_getD (d := hd0) hc, mg, if_neg (show ¬ wiB (h_w (C.getD o hd0) + h_w (C.getD (o + 1) hd0)) ah T f = true from fun z => hw (of_decide_eq_true z)), ← take_snoc (d := hd0) (show o < C.length by omega), List.append_assoc]
  rfl
/-- two heaps beside each other are one -/
def un1 (C : List Hp) (o : Nat) : List Hp := C.take o ++ unI (C.getD o hd0) (C.getD (o + 1) hd0) :: C.drop (o + 2)
theorem un1_len {C : List Hp} {o lf : Nat} (hC : C.length = lf + 1) (hc : o + 1 < lf + 1) : (un1 C o).length = lf := by
  rw [un1, List.length_append, List.length_take, List.length_cons, List.length_drop]
  omega
theorem un1_getD {C : List Hp} {o i : Nat} (hc : o + 1 < C.length) : (un1 C o).getD i hd0 = if i < o then C.getD i hd0 else if i = o then unI (C.getD o hd0) (C.getD (o + 1) hd0) else C.getD (i + 1) hd0 := by
  have hl : (C.take o).length = o := by rw [List.length_take]; omega
  rw [un1, List.getD_eq_getElem?_getD]
  by_cases h1 : i < o
  · rw [List.getElem?_append_left (by omega), List.getElem?_take_of_lt h1, if_pos h1, List.getD_eq_getElem?_getD]
  · rw [if_neg h1, List.getElem?_append_right (by omega), hl]
    by_cases h2 : i = o
    · subst h2
      rw [if_pos rfl, Nat.sub_self]
      rfl
    · rw [if_neg h2, show i - o = (i - o - 1) + 1 by omega, List.getElem?_cons_succ, List.getElem?_drop, show o + 2 + (i - o - 1) = i + 1 by omega, List.getD_eq_getElem?_getD]
theorem pl_unite {f T ah : Int32} {A C : List Hp} {o : Nat} (hc : o + 1 < C.length) (h : packL f A = C.take o ++ mg f T ah (C.getD o hd0) (C.drop (o + 1))) (hw : (h_w (C.getD o hd0) + h_w (C.getD (o + 1) hd0)) * T * f ≤ (nI 2 * ah + (h_w (C.getD o hd0) + h_w (C.getD (o + 1) hd0))) * (nI 2 * T - nI 2 * ah - (h_w (C.getD o hd0) + h_w (C.getD (o + 1) hd0)))) :
    packL f A = (un1 C o).take o ++ mg f T ah ((un1 C o).getD o hd0) ((un1 C o).drop (o + 1)) := by
  have hl : (C.take o).length = o := by rw [List.length_take]; omega
  have e1 : (un1 C o).take o = C.take o := by rw [un1, List.take_append_of_le_length (by omega), List.take_of_length_le (by omega)]
  have e2 : (un1 C o).getD o hd0 = unI (C.getD o hd0) (C.getD (o + 1) hd0) := by rw [un1_getD hc, if_neg (Nat.lt_irrefl o), if_pos rfl]
  have e3 : (un1 C o).drop (o + 1) = C.drop (o + 2) := by
    rw [un1, List.drop_append, hl, List.drop_of_length_le (by omega), show o + 1 - o = 1 by omega]
    rfl
  rw [e1, e2, e3, h, drop_getD (d := hd0) hc, mg, if_pos (show wiB _ _ _ _ = true from decide_eq_true hw)]
def shf (g : Nat → Int32) (b k : Nat) : Nat → Int32 := fun i => if b ≤ i ∧ i < k then g (i + 4) else g i
theorem shf_0 {g : Nat → Int32} {b : Nat} : shf g b b = g := funext fun i => if_neg (by omega)
theorem shf_1 {g : Nat → Int32} {b k : Nat} (h : b ≤ k) : fu (shf g b k) k (g (k + 4)) = shf g b (k + 1) := by
  funext i
  unfold fu shf
  by_cases h1 : i = k
  · subst h1
    rw [if_pos rfl, if_pos ⟨h, by omega⟩]
  · rw [if_neg h1]
    by_cases h2 : b ≤ i ∧ i < k
    · rw [if_pos h2, if_pos ⟨h2.1, by omega⟩]
    · rw [if_neg h2, if_neg (fun z => h2 ⟨z.1, by omega⟩)]
theorem sh_up {σ : Me} {a b k : Nat} (h : b ≤ k) : mu (ms σ a (shf (σ a) b k)) a k (σ a (k + 4)) = ms σ a (shf (σ a) b (k + 1)) := by
  rw [← shf_1 h, mu_ms, ms_s]
  funext q
  unfold ms
  by_cases z : q = a
  · rw [if_pos z, if_pos z]
  · rw [if_neg z, if_neg z, if_neg z]
theorem hp9_put {f : Nat → Int32} {o i : Nat} {w s l g : Int32} : hp9 (fu (fu (fu (fu f (4 * o) w) (4 * o + 1) s) (4 * o + 2) l) (4 * o + 3) g) i = if i = o then (w, s, l, g) else hp9 f i := by
  unfold hp9
  by_cases h : i = o
  · subst h
    rw [if_pos rfl, fu_n (by omega), fu_n (by omega), fu_n (by omega), fu_s, fu_n (by omega), fu_n (by omega), fu_s, fu_n (by omega), fu_s, fu_s]
  · rw [if_neg h]
    simp only [fu_n (show 4 * i ≠ 4 * o by omega), fu_n (show 4 * i ≠ 4 * o + 1 by omega), fu_n (show 4 * i ≠ 4 * o + 2 by omega), fu_n (show 4 * i ≠ 4 * o + 3 by omega), fu_n (show 4 * i + 1 ≠ 4 * o by omega), fu_n (show 4 * i + 1 ≠ 4 * o + 1 by omega), fu_n (show 4 * i + 1 ≠ 4 * o + 2 by omega), fu_n (show 4 * i + 1 ≠ 4 * o + 3 by omega), fu_n (show 4 * i + 2 ≠ 4 * o by omega), fu_n (show 4 * i + 2 ≠ 4 * o + 1 by omega), fu_n (show 4 * i + 2 ≠ 4 * o + 2 by omega), fu_n (show 4 * i + 2 ≠ 4 * o + 3 by omega), fu_n (show 4 * i + 3 ≠ 4 * o by omega), fu_n (show 4 * i + 3 ≠ 4 * o + 1 by omega), fu_n (show 4 * i + 3 ≠ 4 * o + 2 by omega), fu_n (show 4 * i + 3 ≠ 4 * o + 3 by omega)]
theorem HA_un1 {g6 : Nat → Int32} {C : List Hp} {o k : Nat} (h6 : ∀ i, i < C.length → hp9 g6 i = if i = o then unI (C.getD o hd0) (C.getD (o + 1) hd0) else C.getD i hd0) (hc : o + 1 < C.length) (hk : k + 4 = 4 * C.length) : HA (shf g6 (4 * o + 4) k) (un1 C o) := fun i hi => by
  have hl := un1_len (o := o) (lf := C.length - 1) (show C.length = C.length - 1 + 1 by omega) (by omega)
  rw [hl] at hi
  rw [un1_getD hc]
  by_cases h1 : i ≤ o
  · have e : hp9 (shf g6 (4 * o + 4) k) i = hp9 g6 i := by
      unfold hp9 shf
      rw [if_neg (by omega), if_neg (by omega), if_neg (by omega), if_neg (by omega)]
    rw [e, h6 i (by omega)]
    by_cases h2 : i = o
    · rw [if_pos h2, if_neg (by omega), if_pos h2]
    · rw [if_neg h2, if_pos (by omega)]
  · have e : hp9 (shf g6 (4 * o + 4) k) i = hp9 g6 (i + 1) := by
      unfold hp9 shf
      rw [if_pos (by omega), if_pos (by omega), if_pos (by omega), if_pos (by omega)]
      rfl
    rw [e, h6 (i + 1) (by omega), if_neg (by omega), if_neg (by omega), if_neg (by omega)]

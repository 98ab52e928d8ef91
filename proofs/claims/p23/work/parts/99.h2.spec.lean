/-! the law's own arrays as lists: heaps by four, one list for an array's first places -/
def hp9 (f : Nat → Int32) (k : Nat) : Hp := (f (4 * k), f (4 * k + 1), f (4 * k + 2), f (4 * k + 3))
def HA (f : Nat → Int32) (A : List Hp) : Prop := ∀ i, i < A.length → hp9 f i = A.getD i hd0
/-- the first places of an array -/
def RA (f : Nat → Int32) (B : List Int32) : Prop := ∀ i, i < B.length → f i = B.getD i 0
def Oa (a : Nat) (μ u : Me) : Prop := ∀ k, k ≠ a → u k = μ k
theorem Oa.rf {a : Nat} {μ : Me} : Oa a μ μ := fun _ _ => rfl
theorem Oa.tr {a : Nat} {μ u v : Me} (h1 : Oa a μ u) (h2 : Oa a u v) : Oa a μ v := fun k hk => (h2 k hk).trans (h1 k hk)
theorem Oa.mu {a i : Nat} {μ : Me} {v : Int32} : Oa a μ (mu μ a i v) := fun _ hk => mu_r hk
def ms (μ : Me) (k : Nat) (f : Nat → Int32) : Me := fun k' => if k' = k then f else μ k'
theorem ms_s {μ : Me} {k : Nat} {f : Nat → Int32} : ms μ k f k = f := if_pos rfl
theorem ms_n {μ : Me} {k k' : Nat} {f : Nat → Int32} (h : k' ≠ k) : ms μ k f k' = μ k' := if_neg h
theorem Oa.ms {a : Nat} {μ : Me} {f : Nat → Int32} : Oa a μ (ms μ a f) := fun _ hk => ms_n hk
def fu (f : Nat → Int32) (i : Nat) (v : Int32) : Nat → Int32 := fun j => if j = i then v else f j
theorem mu_ms {μ : Me} {k i : Nat} {v : Int32} : mu μ k i v = ms μ k (fu (μ k) i v) := by
  funext k' j
  unfold mu ms fu
  by_cases h : k' = k
  · subst h
    rw [if_pos rfl]
    by_cases h2 : j = i
    · rw [if_pos ⟨rfl, h2⟩, if_pos h2]
    · rw [if_neg (fun z => h2 z.2), if_neg h2]
  · rw [if_neg (fun z => h z.1), if_neg h]
theorem mu_f {μ : Me} {k i : Nat} {v : Int32} : mu μ k i v k = fu (μ k) i v := by rw [mu_ms, ms_s]
theorem fu_s {f : Nat → Int32} {i : Nat} {v : Int32} : fu f i v i = v := if_pos rfl
theorem fu_n {f : Nat → Int32} {i j : Nat} {v : Int32} (h : j ≠ i) : fu f i v j = f j := if_neg h
theorem HA.w {f : Nat → Int32} {A : List Hp} (h : HA f A) {k : Nat} (hk : k < A.length) : f (4 * k) = h_w (A.getD k hd0) := congrArg (fun q : Hp => q.1) (h k hk)
theorem HA.s {f : Nat → Int32} {A : List Hp} (h : HA f A) {k : Nat} (hk : k < A.length) : f (4 * k + 1) = h_s (A.getD k hd0) := congrArg (fun q : Hp => q.2.1) (h k hk)
theorem HA.l {f : Nat → Int32} {A : List Hp} (h : HA f A) {k : Nat} (hk : k < A.length) : f (4 * k + 2) = h_l (A.getD k hd0) := congrArg (fun q : Hp => q.2.2.1) (h k hk)
theorem HA.g {f : Nat → Int32} {A : List Hp} (h : HA f A) {k : Nat} (hk : k < A.length) : f (4 * k + 3) = h_g (A.getD k hd0) := congrArg (fun q : Hp => q.2.2.2) (h k hk)
/-! two heaps change places -/
def swf (f : Nat → Int32) (a b : Nat) : Nat → Int32 := fun i => if i / 4 = a then f (4 * b + i % 4) else if i / 4 = b then f (4 * a + i % 4) else f i
def swn (f : Nat → Int32) (a b k : Nat) : Nat → Int32 := fun i => if i % 4 < k then swf f a b i else f i
theorem swn_0 {f : Nat → Int32} {a b : Nat} : swn f a b 0 = f := funext fun i => if_neg (Nat.not_lt_zero _)
theorem swn_4 {f : Nat → Int32} {a b : Nat} : swn f a b 4 = swf f a b := funext fun i => if_pos (by omega)
theorem swn_k {f : Nat → Int32} {a b k c : Nat} (hk : k < 4) : swn f a b k (4 * c + k) = f (4 * c + k) := if_neg (by omega)
theorem sw_step {f : Nat → Int32} {a b k : Nat} (hk : k < 4) (hne : a ≠ b) : fu (fu (swn f a b k) (4 * a + k) (f (4 * b + k))) (4 * b + k) (f (4 * a + k)) = swn f a b (k + 1) := by
  funext i
  by_cases h1 : i = 4 * b + k
  · subst h1
    rw [fu_s, swn, if_pos (by omega), swf, if_neg (by omega), if_pos (by omega), show (4 * b + k) % 4 = k by omega]
  · rw [fu_n h1]
    by_cases h2 : i = 4 * a + k
    · subst h2
      rw [fu_s, swn, if_pos (by omega), swf, if_pos (by omega), show (4 * a + k) % 4 = k by omega]
    · rw [fu_n h2]
      unfold swn
      by_cases h3 : i % 4 < k
      · rw [if_pos h3, if_pos (by omega)]
      · rw [if_neg h3]
        by_cases h4 : i % 4 < k + 1
        · rw [if_pos h4, swf, if_neg (by omega), if_neg (by omega)]
        · rw [if_neg h4]
theorem hp9_swf {f : Nat → Int32} {a b i : Nat} : hp9 (swf f a b) i = if i = a then hp9 f b else if i = b then hp9 f a else hp9 f i := by
  have e : ∀ j, j < 4 → swf f a b (4 * i + j) = if i = a then f (4 * b + j) else if i = b then f (4 * a + j) else f (4 * i + j) := fun j hj => by
    rw [swf, show (4 * i + j) / 4 = i by omega, show (4 * i + j) % 4 = j by omega]
  have e0 := e 0 (by omega)
  have e1 := e 1 (by omega)
  have e2 := e 2 (by omega)
  have e3 := e 3 (by omega)
  rw [Nat.add_zero] at e0
  unfold hp9
  rw [e0, e1, e2, e3]
  by_cases h1 : i = a
  · simp only [if_pos h1]; rfl
  · simp only [if_neg h1]
    by_cases h2 : i = b
    · simp only [if_pos h2]; rfl
    · simp only [if_neg h2]
theorem HA_swp {f : Nat → Int32} {A : List Hp} {a b : Nat} (h : HA f A) (ha : a < A.length) (hb : b < A.length) : HA (swf f a b) (swp hd0 A a b) := fun i hi => by
  rw [swp_len] at hi
  rw [hp9_swf, swp]
  by_cases h2 : i = b
  · subst h2
    rw [getD_set_self (by rw [List.length_set]; exact hi)]
    by_cases h1 : i = a
    · subst h1
      rw [if_pos rfl]
      exact h i hi
    · rw [if_neg h1, if_pos rfl]
      exact h a ha
  · rw [getD_set_ne (Ne.symm h2)]
    by_cases h1 : i = a
    · subst h1
      rw [if_pos rfl, getD_set_self hi]
      exact h b hb
    · rw [if_neg h1, if_neg h2, getD_set_ne (Ne.symm h1)]
      exact h i hi
/-! heaps in order, pass by pass -/
def bst (B : List Hp) : Nat → List Hp
  | 0 => B
  | k + 1 => if gtH ((bst B k).getD k hd0) ((bst B k).getD (k + 1) hd0) = true then swp hd0 (bst B k) k (k + 1) else bst B k
def bitr (A : List Hp) : Nat → List Hp
  | 0 => A
  | r + 1 => bst (bitr A r) (A.length - 1)
theorem bst_len {B : List Hp} : ∀ k, (bst B k).length = B.length
  | 0 => rfl
  | k + 1 => by
    rw [bst]
    split
    · rw [swp_len, bst_len k]
    · exact bst_len k
theorem bitr_len {A : List Hp} : ∀ r, (bitr A r).length = A.length
  | 0 => rfl
  | r + 1 => by rw [bitr, bst_len, bitr_len r]
/-- what an order asks of a compare -/
def Fw (P : Hp → Prop) : Prop := ∀ x y z, P x → P y → P z → gtH x y = true → gtH y z = true → gtH x z = true
theorem gtH_tr {x y z : Hp} (hx : GH x) (hy : GH y) (hz : GH z) (h1 : gtH x y = true) (h2 : gtH y z = true) : gtH x z = true := by
  have a := (gtH_n hx hy).mp h1
  have b := (gtH_n hy hz).mp h2
  refine (gtH_n hx hz).mpr ?_
  have hw := (wN_GH hy).2.1
  have hwx := (wN_GH hx).2.1
  have hwz := (wN_GH hz).2.1
  apply Nat.lt_of_mul_lt_mul_right (a := wN y)
  calc sN z * wN x * wN y = sN z * wN y * wN x := Nat.mul_right_comm _ _ _
    _ < sN y * wN z * wN x := Nat.mul_lt_mul_of_pos_right b hwx
    _ = sN y * wN x * wN z := Nat.mul_right_comm _ _ _
    _ < sN x * wN y * wN z := Nat.mul_lt_mul_of_pos_right a hwz
    _ = sN x * wN z * wN y := Nat.mul_right_comm _ _ _
theorem gtH_as {x y : Hp} (hx : GH x) (hy : GH y) (h1 : gtH x y = true) : ¬ gtH y x = true := fun h2 => by
  have a := (gtH_n hx hy).mp h1
  have b := (gtH_n hy hx).mp h2
  omega
/-- two that stand in the wrong order may come in either way -/
theorem insH_comm : ∀ (n : Nat) (l : List Hp) (x y : Hp), l.length = n → (∀ z ∈ l, GH z) → GH x → GH y → gtH x y = true → insH (insH l x) y = insH (insH l y) x
  | n, l, x, y, hn, hg, hx, hy, hxy => by
    have hyx := gtH_as hx hy hxy
    rcases snoc_cases l with e | ⟨l', z, e⟩
    · subst e
      have e1 : ∀ v, insH [] v = [v] := fun v => rfl
      rw [e1, e1, show ([x] : List Hp) = [] ++ [x] from rfl, show ([y] : List Hp) = [] ++ [y] from rfl, insH_snoc, insH_snoc, if_pos hxy, if_neg hyx]
      rfl
    · subst e
      have hgz : GH z := hg z (List.mem_append.mpr (Or.inr List.mem_cons_self))
      have hg' : ∀ w ∈ l', GH w := fun w hw => hg w (List.mem_append.mpr (Or.inl hw))
      have hl' : l'.length < n := by rw [← hn, List.length_append, List.length_singleton]; omega
      rw [insH_snoc, insH_snoc]
      by_cases c1 : gtH z x = true
      · have c2 := gtH_tr hgz hx hy c1 hxy
        rw [if_pos c1, if_pos c2, insH_snoc, insH_snoc, if_pos c2, if_pos c1, insH_comm l'.length l' x y rfl hg' hx hy hxy]
      · rw [if_neg c1]
        by_cases c2 : gtH z y = true
        · rw [if_pos c2, insH_snoc, if_pos hxy, insH_snoc, if_pos c2, insH_snoc, if_neg c1]
        · rw [if_neg c2, insH_snoc, if_pos hxy, insH_snoc, if_neg c2, insH_snoc, if_neg hyx]
termination_by n => n
theorem oSort_fold {A : List Hp} : ∀ n, n < A.length → oSort A n = (A.take (n + 1)).foldl insH [] ++ A.drop (n + 1)
  | 0, h => by
    cases A with
    | nil => exact absurd h (Nat.not_lt_zero _)
    | cons a r => rfl
  | n + 1, h => by
    have hlen : ∀ (l acc : List Hp), (l.foldl insH acc).length = acc.length + l.length := fun l => by
      induction l with
      | nil => intro acc; rfl
      | cons x r ih =>
        intro acc
        rw [List.foldl_cons, ih, insH, sift_len, List.length_append, List.length_singleton, List.length_cons]
        omega
    have ed : A.drop (n + 1) = [A.getD (n + 1) hd0] ++ A.drop (n + 2) := by
      rw [List.drop_eq_getElem_cons h, List.getD_eq_getElem?_getD, List.getElem?_eq_getElem h]
      rfl
    have hl : ((A.take (n + 1)).foldl insH []).length = n + 1 := by
      rw [hlen, List.length_take, List.length_nil]; omega
    rw [oSort, oSort_fold n (by omega), ed, ← List.append_assoc, sift_app _ _ _ (by rw [List.length_append, List.length_singleton, hl]; omega), ← take_snoc (d := hd0) h, List.foldl_append]
    show sift hd0 gtH (n + 1) (List.foldl insH [] (List.take (n + 1) A) ++ [A.getD (n + 1) hd0]) ++ List.drop (n + 2) A = insH (List.foldl insH [] (List.take (n + 1) A)) (A.getD (n + 1) hd0) ++ _
    rw [insH, hl]
theorem order_fold {A : List Hp} : order A = A.foldl insH [] := by
  rcases Nat.eq_zero_or_pos A.length with q | q
  · rw [List.length_eq_zero_iff.mp q]; rfl
  · rw [order, oSort_fold _ (by omega), show A.length - 1 + 1 = A.length by omega, List.take_length, List.drop_length, List.append_nil]
theorem foldl_GH : ∀ (l acc : List Hp), (∀ x ∈ l, GH x) → (∀ x ∈ acc, GH x) → ∀ x ∈ l.foldl insH acc, GH x
  | [], _, _, ha => ha
  | y :: r, acc, hl, ha => foldl_GH r (insH acc y) (fun x hx => hl x (List.mem_cons_of_mem _ hx)) (fun x hx => by
    rcases insH_mem.mp hx with q | q
    · exact ha x q
    · rw [q]; exact hl y List.mem_cons_self)
theorem swp_split {A : List Hp} {k : Nat} (h : k + 1 < A.length) : ∃ l r, A = l ++ A.getD k hd0 :: A.getD (k + 1) hd0 :: r ∧ swp hd0 A k (k + 1) = l ++ A.getD (k + 1) hd0 :: A.getD k hd0 :: r := by
  have e1 : A = A.take k ++ A.getD k hd0 :: A.getD (k + 1) hd0 :: A.drop (k + 2) := by
    rw [← drop_getD (d := hd0) h, ← drop_getD (d := hd0) (show k < A.length by omega), List.take_append_drop]
  refine ⟨A.take k, A.drop (k + 2), e1, ?_⟩
  have hl : (A.take k).length = k := by rw [List.length_take]; omega
  apply List.ext_getElem?
  intro j
  rw [swp, List.getElem?_set, List.getElem?_set]
  rcases Nat.lt_trichotomy j k with q | q | q
  · rw [if_neg (by omega), if_neg (by omega), List.getElem?_append_left (by omega), List.getElem?_take_of_lt q]
  · subst q
    rw [if_neg (by omega), if_pos rfl, if_pos (by omega), List.getElem?_append_right (by omega), hl, Nat.sub_self]
    rfl
  · by_cases q2 : j = k + 1
    · subst q2
      rw [if_pos rfl, if_pos (by rw [List.length_set]; exact h), List.getElem?_append_right (by omega), hl, show k + 1 - k = 1 by omega]
      rfl
    · rw [if_neg (by omega), if_neg (by omega), List.getElem?_append_right (by omega), hl, show j - k = (j - k - 2) + 2 by omega]
      show _ = (A.drop (k + 2))[j - k - 2]?
      rw [List.getElem?_drop, show k + 2 + (j - k - 2) = j by omega]
theorem order_swp {A : List Hp} {k : Nat} (hg : ∀ x ∈ A, GH x) (h : k + 1 < A.length) (hgt : gtH (A.getD k hd0) (A.getD (k + 1) hd0) = true) : order (swp hd0 A k (k + 1)) = order A := by
  have g1 := hg _ (mem_getD (d := hd0) (show k < A.length by omega))
  have g2 := hg _ (mem_getD (d := hd0) h)
  obtain ⟨l, r, e1, e2⟩ := swp_split h
  generalize A.getD k hd0 = x at *
  generalize A.getD (k + 1) hd0 = y at *
  have hgl : ∀ z ∈ l, GH z := fun z hz => hg z (by rw [e1]; exact List.mem_append.mpr (Or.inl hz))
  rw [order_fold, order_fold, e2, e1, List.foldl_append, List.foldl_append, List.foldl_cons, List.foldl_cons, List.foldl_cons, List.foldl_cons]
  rw [insH_comm _ _ x y rfl (foldl_GH l [] hgl (fun z hz => by cases hz)) g1 g2 hgt]
theorem bst_ord {B : List Hp} (hg : ∀ x ∈ B, GH x) : ∀ k, k < B.length ∨ k = 0 → order (bst B k) = order B ∧ ∀ x ∈ bst B k, GH x
  | 0, _ => ⟨rfl, hg⟩
  | k + 1, h => by
    obtain ⟨a, b⟩ := bst_ord hg k (by omega)
    have hl := bst_len (B := B) k
    rw [bst]
    split
    · rename_i c
      refine ⟨(order_swp b (by omega) c).trans a, fun x hx => b x ((swp_perm (d := hd0) _ _ (by omega)).mem_iff.mp hx)⟩
    · exact ⟨a, b⟩
theorem bitr_ord {A : List Hp} (hg : ∀ x ∈ A, GH x) : ∀ r, order (bitr A r) = order A ∧ ∀ x ∈ bitr A r, GH x
  | 0 => ⟨rfl, hg⟩
  | r + 1 => by
    obtain ⟨a, b⟩ := bitr_ord hg r
    have hl := bitr_len (A := A) r
    obtain ⟨c, d⟩ := bst_ord b (A.length - 1) (by omega)
    exact ⟨c.trans a, d⟩

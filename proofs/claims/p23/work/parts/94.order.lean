/-! heaps in the order of their middles -/
def sN (x : Hp) : Nat := (h_s x).toNatClampNeg
theorem sN_GH {x : Hp} (h : GH x) : h_s x = nI (sN x) ∧ sN x ≤ 1999800 := by
  obtain ⟨w, s, l, g, rfl, h1, h2, h3, h4, h5⟩ := h
  have := Nat.mul_le_mul h2 h5
  unfold sN
  show nI s = nI (nI s).toNatClampNeg ∧ (nI s).toNatClampNeg ≤ 1999800
  rw [nI_clamp (by omega)]
  exact ⟨rfl, by omega⟩
theorem uni_s {a b : Hp} (ha : GH a) (hb : GH b) : sN (unI a b) = sN a + sN b := by
  have h1 := sN_GH ha
  have h2 := sN_GH hb
  show (h_s a + h_s b).toNatClampNeg = _
  rw [h1.1, h2.1, nI_add, nI_clamp (by omega)]
def mle (x y : Hp) : Prop := sN x * wN y ≤ sN y * wN x
theorem mle_tr {x y z : Hp} (hy : 0 < wN y) (h1 : mle x y) (h2 : mle y z) : mle x z := by
  apply Nat.le_of_mul_le_mul_right (c := wN y) _ hy
  calc sN x * wN z * wN y = sN x * wN y * wN z := Nat.mul_right_comm _ _ _
    _ ≤ sN y * wN x * wN z := Nat.mul_le_mul_right _ h1
    _ = sN y * wN z * wN x := Nat.mul_right_comm _ _ _
    _ ≤ sN z * wN y * wN x := Nat.mul_le_mul_right _ h2
    _ = sN z * wN x * wN y := Nat.mul_right_comm _ _ _
theorem gtH_n {a b : Hp} (ha : GH a) (hb : GH b) : gtH a b = true ↔ sN b * wN a < sN a * wN b := by
  have e : gtH a b = decide ((h_s b).toInt * (h_w a).toInt < (h_s a).toInt * (h_w b).toInt) := rfl
  have h1 := sN_GH ha
  have h2 := sN_GH hb
  have h3 := wN_GH ha
  have h4 := wN_GH hb
  rw [e, decide_eq_true_iff, h1.1, h2.1, h3.1, h4.1, nI_toInt (by omega), nI_toInt (by omega), nI_toInt (by omega), nI_toInt (by omega), ← Int.natCast_mul, ← Int.natCast_mul]
  exact Int.ofNat_lt
def Mo (l : List Hp) : Prop := l.Pairwise mle
def insH (l : List Hp) (v : Hp) : List Hp := sift hd0 gtH l.length (l ++ [v])
theorem insH_snoc {l : List Hp} {y v : Hp} : insH (l ++ [y]) v = if gtH y v = true then insH l v ++ [y] else l ++ [y] ++ [v] := by
  have e1 : (l ++ [y] ++ [v]).getD l.length hd0 = y := by rw [getD_app_l (by rw [List.length_append, List.length_singleton]; omega)]; exact getD_snoc_l
  have e2 : (l ++ [y] ++ [v]).getD (l.length + 1) hd0 = v := by
    have := getD_snoc_l (d := hd0) (l := l ++ [y]) (x := v)
    rw [List.length_append, List.length_singleton] at this
    exact this
  have e3 : insH (l ++ [y]) v = sift hd0 gtH (l.length + 1) (l ++ [y] ++ [v]) := by
    unfold insH
    rw [List.length_append, List.length_singleton]
  rw [e3, sift, e1, e2, swp_end]
  by_cases q : gtH y v = true
  · rw [if_pos q, if_pos q]
    exact sift_app l.length (l ++ [v]) [y] (by rw [List.length_append, List.length_singleton]; omega)
  · rw [if_neg q, if_neg q]
theorem insH_mem {l : List Hp} {v x : Hp} : x ∈ insH l v ↔ x ∈ l ∨ x = v := by
  rw [(show (insH l v).Perm (l ++ [v]) from sift_perm _ _ (by rw [List.length_append, List.length_singleton]; omega)).mem_iff, List.mem_append, List.mem_singleton]
theorem insH_Mo : ∀ (n : Nat) (l : List Hp) (v : Hp), l.length = n → GH v → (∀ x ∈ l, GH x) → Mo l → Mo (insH l v)
  | n, l, v, hn, hv, hg, h => by
    rcases snoc_cases l with e | ⟨l', y, e⟩
    · rw [e]
      exact List.pairwise_singleton _ _
    · have hl' : l'.length < n := by rw [← hn, e, List.length_append, List.length_singleton]; omega
      rw [e] at h hg ⊢
      obtain ⟨h1, h2, h3⟩ := List.pairwise_append.mp h
      have hgy : GH y := hg y (List.mem_append.mpr (Or.inr List.mem_cons_self))
      have hy : ∀ a ∈ l', mle a y := fun a ha => h3 a ha y List.mem_cons_self
      rw [insH_snoc]
      by_cases q : gtH y v = true
      · rw [if_pos q]
        refine List.pairwise_append.mpr ⟨insH_Mo l'.length l' v rfl hv (fun x hx => hg x (List.mem_append.mpr (Or.inl hx))) h1, List.pairwise_singleton _ _, fun a ha b hb => ?_⟩
        rw [List.mem_singleton.mp hb]
        rcases insH_mem.mp ha with z | z
        · exact hy a z
        · rw [z]; exact Nat.le_of_lt ((gtH_n hgy hv).mp q)
      · rw [if_neg q]
        have hyv : mle y v := Nat.le_of_not_lt (fun z => q ((gtH_n hgy hv).mpr z))
        refine List.pairwise_append.mpr ⟨h, List.pairwise_singleton _ _, fun a ha b hb => ?_⟩
        rw [List.mem_singleton.mp hb]
        rcases List.mem_append.mp ha with z | z
        · exact mle_tr (wN_GH hgy).2.1 (hy a z) hyv
        · rw [List.mem_singleton.mp z]; exact hyv
termination_by n => n
theorem oSort_Mo {A : List Hp} (hA : ∀ x ∈ A, GH x) : ∀ n, n < A.length → ∃ S, oSort A n = S ++ A.drop (n + 1) ∧ S.length = n + 1 ∧ Mo S ∧ ∀ x ∈ S, GH x
  | 0, h => by
    refine ⟨[A.getD 0 hd0], ?_, rfl, List.pairwise_singleton _ _, fun x hx => ?_⟩
    · cases A with
      | nil => exact absurd h (Nat.lt_irrefl 0)
      | cons a r => rfl
    · rw [List.mem_singleton.mp hx]
      exact hA _ (mem_getD h)
  | n + 1, h => by
    obtain ⟨S, e, hl, hm, hg⟩ := oSort_Mo hA n (by omega)
    have ha := hA _ (mem_getD (d := hd0) h)
    have ed : A.drop (n + 1) = [A.getD (n + 1) hd0] ++ A.drop (n + 2) := by
      rw [List.drop_eq_getElem_cons h, List.getD_eq_getElem?_getD, List.getElem?_eq_getElem h]
      rfl
    refine ⟨insH S (A.getD (n + 1) hd0), ?_, ?_, insH_Mo _ S _ rfl ha hg hm, fun x hx => ?_⟩
    · rw [oSort, e, ed, ← List.append_assoc, sift_app _ _ _ (by rw [List.length_append, List.length_singleton]; omega), insH, hl]
    · rw [insH, sift_len, List.length_append, List.length_singleton, hl]
    · rcases insH_mem.mp hx with q | q
      · exact hg x q
      · rw [q]; exact ha
theorem order_Mo {A : List Hp} (hA : ∀ x ∈ A, GH x) : Mo (order A) := by
  rcases Nat.eq_zero_or_pos A.length with h | h
  · rw [List.length_eq_zero_iff.mp h]
    exact List.Pairwise.nil
  · obtain ⟨S, e, hl, hm, hg⟩ := oSort_Mo hA (A.length - 1) (by omega)
    rw [order, e, show A.length - 1 + 1 = A.length by omega, List.drop_length, List.append_nil]
    exact hm
/-- putting neighbours together keeps the order -/
theorem mle_uni {o x y : Hp} (ho : GH o) (hx : GH x) (h : wN o + wN x ≤ 200) (h1 : mle o y) (h2 : mle x y) : mle (unI o x) y := by
  unfold mle at *
  rw [uni_s ho hx, (GH_uni ho hx h).2, Nat.add_mul, Nat.mul_add]
  exact Nat.add_le_add h1 h2
theorem mle_unr {o x y : Hp} (ho : GH o) (hx : GH x) (h : wN o + wN x ≤ 200) (h1 : mle y o) (h2 : mle y x) : mle y (unI o x) := by
  unfold mle at *
  rw [uni_s ho hx, (GH_uni ho hx h).2, Nat.add_mul, Nat.mul_add]
  exact Nat.add_le_add h1 h2
theorem mg_Mo {f tot : Int32} : ∀ (r : List Hp) (a : Int32) (o : Hp), GH o → (∀ x ∈ r, GH x) → wN o + sumN r ≤ 200 → Mo (o :: r) → Mo (mg f tot a o r) ∧ ∀ y, mle y o → (∀ x ∈ r, mle y x) → ∀ x ∈ mg f tot a o r, mle y x
  | [], _, o, _, _, _, _ => ⟨List.pairwise_singleton _ _, fun y hy _ x hx => by rw [mg, List.mem_singleton] at hx; rw [hx]; exact hy⟩
  | x :: r, a, o, ho, hr, hs, hm => by
    have hgx := hr x List.mem_cons_self
    have hr2 : ∀ z ∈ r, GH z := fun z hz => hr z (List.mem_cons_of_mem _ hz)
    obtain ⟨m1, m2⟩ := List.pairwise_cons.mp hm
    obtain ⟨m3, m4⟩ := List.pairwise_cons.mp m2
    rw [sumN] at hs
    unfold mg
    split
    · obtain ⟨hu, hw⟩ := GH_uni ho hgx (by omega)
      obtain ⟨i1, i2⟩ := mg_Mo r a (unI o x) hu hr2 (by rw [hw]; omega) (List.pairwise_cons.mpr ⟨fun z hz => mle_uni ho hgx (by omega) (m1 z (List.mem_cons_of_mem _ hz)) (m3 z hz), m4⟩)
      exact ⟨i1, fun y hy hyr => i2 y (mle_unr ho hgx (by omega) hy (hyr x List.mem_cons_self)) (fun z hz => hyr z (List.mem_cons_of_mem _ hz))⟩
    · obtain ⟨i1, i2⟩ := mg_Mo r (a + h_w o) x hgx hr2 (by omega) m2
      refine ⟨List.pairwise_cons.mpr ⟨i2 o (m1 x List.mem_cons_self) (fun z hz => m1 z (List.mem_cons_of_mem _ hz)), i1⟩, fun y hy hyr z hz => ?_⟩
      rcases List.mem_cons.mp hz with q | q
      · rw [q]; exact hy
      · exact i2 y (hyr x List.mem_cons_self) (fun z hz => hyr z (List.mem_cons_of_mem _ hz)) z q
theorem packL_Mo {f : Int32} {A : List Hp} (h : ∀ x ∈ A, GH x) (hs : sumN A ≤ 200) : Mo (packL f A) := by
  have hm := order_Mo h
  have hp := order_perm (A := A)
  have hg : ∀ x ∈ order A, GH x := fun x hx => h x (hp.mem_iff.mp hx)
  have hs2 : sumN (order A) ≤ 200 := by rw [sumN_perm hp]; exact hs
  rw [packL]
  generalize order A = B at hm hg hs2
  cases B with
  | nil => exact List.Pairwise.nil
  | cons x r =>
    rw [sumN] at hs2
    exact (mg_Mo r _ x (hg x List.mem_cons_self) (fun z hz => hg z (List.mem_cons_of_mem _ hz)) hs2 hm).1

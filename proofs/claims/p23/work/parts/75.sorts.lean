/-! the values in order: one list for all ways in which the same values come -/
theorem swp_app {α : Type} {d : α} : ∀ (l r : List α) (i : Nat), i + 1 < l.length → swp d (l ++ r) i (i + 1) = swp d l i (i + 1) ++ r
  | [], _, _, h => absurd h (Nat.not_lt_zero _)
  | [_], _, i, h => absurd h (by show ¬ i + 1 < 1; omega)
  | _ :: _ :: _, _, 0, _ => rfl
  | x :: y :: l, r, i + 1, h => congrArg (List.cons x) (swp_app (d := d) (y :: l) r i (Nat.lt_of_succ_lt_succ h))
theorem getD_app_l {α : Type} {d : α} {l r : List α} {i : Nat} (h : i < l.length) : (l ++ r).getD i d = l.getD i d := by
  rw [List.getD_eq_getElem?_getD, List.getD_eq_getElem?_getD, List.getElem?_append_left h]
theorem sift_app {α : Type} {d : α} {gt : α → α → Bool} : ∀ (i : Nat) (l r : List α), i < l.length ∨ i = 0 → sift d gt i (l ++ r) = sift d gt i l ++ r
  | 0, _, _, _ => rfl
  | i + 1, l, r, h => by
    have h2 : i + 1 < l.length := by omega
    rw [sift, sift, getD_app_l (by omega), getD_app_l h2]
    split
    · rw [swp_app l r i h2]
      exact sift_app i _ r (by rw [swp_len]; omega)
    · rfl
theorem swp_end {α : Type} {d y v : α} : ∀ (l : List α), swp d (l ++ [y] ++ [v]) l.length (l.length + 1) = l ++ [v] ++ [y]
  | [] => rfl
  | x :: l => congrArg (List.cons x) (swp_end (d := d) (y := y) (v := v) l)
theorem ins_snoc {l : List Int32} {y v : Int32} : ins (l ++ [y]) v = if v < y then ins l v ++ [y] else l ++ [y] ++ [v] := by
  have e1 : (l ++ [y] ++ [v]).getD l.length 0 = y := by rw [getD_app_l (by rw [List.length_append, List.length_singleton]; omega)]; exact getD_snoc_l
  have e2 : (l ++ [y] ++ [v]).getD (l.length + 1) 0 = v := by
    have := getD_snoc_l (d := (0 : Int32)) (l := l ++ [y]) (x := v)
    rw [List.length_append, List.length_singleton] at this
    exact this
  have e3 : ins (l ++ [y]) v = sift 0 gtI (l.length + 1) (l ++ [y] ++ [v]) := by
    unfold ins
    rw [List.length_append, List.length_singleton]
  rw [e3, sift, e1, e2, swp_end]
  by_cases q : v < y
  · rw [if_pos q, if_pos (show gtI y v = true from decide_eq_true q)]
    exact sift_app l.length (l ++ [v]) [y] (by rw [List.length_append, List.length_singleton]; omega)
  · rw [if_neg q, if_neg (show ¬ gtI y v = true from fun z => q (of_decide_eq_true (show decide (v < y) = true from z)))]
theorem snoc_cases {α : Type} : ∀ (l : List α), l = [] ∨ ∃ l' y, l = l' ++ [y]
  | [] => Or.inl rfl
  | x :: r => by
    rcases snoc_cases r with h | ⟨l', y, h⟩
    · exact Or.inr ⟨[], x, by rw [h]; rfl⟩
    · exact Or.inr ⟨x :: l', y, by rw [h]; rfl⟩
def Up (l : List Int32) : Prop := l.Pairwise (fun a b => a ≤ b)
theorem ins_mem {l : List Int32} {v x : Int32} : x ∈ ins l v ↔ x ∈ l ∨ x = v := by
  rw [(ins_perm (l := l) (v := v)).mem_iff, List.mem_append, List.mem_singleton]
theorem ins_Up : ∀ (n : Nat) (l : List Int32) (v : Int32), l.length = n → Up l → Up (ins l v)
  | n, l, v, hn, h => by
    rcases snoc_cases l with e | ⟨l', y, e⟩
    · rw [e]
      exact List.pairwise_singleton _ _
    · have hl' : l'.length < n := by rw [← hn, e, List.length_append, List.length_singleton]; omega
      rw [e] at h ⊢
      obtain ⟨h1, h2, h3⟩ := List.pairwise_append.mp h
      have hy : ∀ a ∈ l', a ≤ y := fun a ha => h3 a ha y List.mem_cons_self
      rw [ins_snoc]
      by_cases q : v < y
      · rw [if_pos q]
        refine List.pairwise_append.mpr ⟨ins_Up l'.length l' v rfl h1, List.pairwise_singleton _ _, fun a ha b hb => ?_⟩
        rw [List.mem_singleton.mp hb]
        rcases ins_mem.mp ha with z | z
        · exact hy a z
        · rw [z]; exact Int32.le_of_lt q
      · rw [if_neg q]
        refine List.pairwise_append.mpr ⟨h, List.pairwise_singleton _ _, fun a ha b hb => ?_⟩
        rw [List.mem_singleton.mp hb]
        have hyv := Int32.not_lt.mp q
        rcases List.mem_append.mp ha with z | z
        · exact Int32.le_trans (hy a z) hyv
        · rw [List.mem_singleton.mp z]; exact hyv
termination_by n => n

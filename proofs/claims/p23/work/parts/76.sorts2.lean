theorem Up_perm : ∀ (a b : List Int32), a.Perm b → Up a → Up b → a = b
  | [], b, h, _, _ => by
    cases b with
    | nil => rfl
    | cons y b => exact absurd h.length_eq (by simp)
  | x :: a, b, h, ha, hb => by
    cases b with
    | nil => exact absurd h.length_eq (by simp)
    | cons y b =>
      obtain ⟨ha1, ha2⟩ := List.pairwise_cons.mp ha
      obtain ⟨hb1, hb2⟩ := List.pairwise_cons.mp hb
      have h1 : x ≤ y := by
        rcases List.mem_cons.mp (h.mem_iff.mpr (List.mem_cons_self : y ∈ y :: b)) with q | q
        · rw [q]; exact Int32.le_rfl
        · exact ha1 y q
      have h2 : y ≤ x := by
        rcases List.mem_cons.mp (h.mem_iff.mp (List.mem_cons_self : x ∈ x :: a)) with q | q
        · rw [q]; exact Int32.le_rfl
        · exact hb1 x q
      have e : x = y := Int32.le_antisymm h1 h2
      subst e
      rw [Up_perm a b h.cons_inv ha2 hb2]
theorem foldl_ins_Up : ∀ (W V : List Int32), Up V → Up (W.foldl ins V) ∧ (W.foldl ins V).Perm (V ++ W)
  | [], V, h => ⟨h, by rw [List.append_nil]; exact List.Perm.refl _⟩
  | x :: W, V, h => by
    obtain ⟨a, b⟩ := foldl_ins_Up W (ins V x) (ins_Up _ V x rfl h)
    refine ⟨a, b.trans ?_⟩
    have := (ins_perm (l := V) (v := x)).append_right W
    rw [List.append_assoc] at this
    exact this
theorem srt_Up {V : List Int32} : Up (srt V) ∧ (srt V).Perm V := by
  have := foldl_ins_Up V [] List.Pairwise.nil
  exact this
/-- one value more -/
theorem srt_ins {V : List Int32} {v : Int32} : ins (srt V) v = srt (V ++ [v]) := by
  rw [srt, srt, List.foldl_append]
  rfl
/-- the values of two digests together -/
theorem srt_join {V W : List Int32} : (srt W).foldl ins (srt V) = srt (V ++ W) := by
  obtain ⟨a, b⟩ := srt_Up (V := V)
  obtain ⟨c, d⟩ := srt_Up (V := W)
  obtain ⟨e, f⟩ := foldl_ins_Up (srt W) (srt V) a
  obtain ⟨g, h⟩ := srt_Up (V := V ++ W)
  exact Up_perm _ _ (f.trans ((b.append d).trans h.symm)) e g
/-- the class's digest out of the model's: its row of values in order -/
def cl8 (D : Dg) : Dg := (D.1, D.2.1, srt D.2.2.1, D.2.2.2)
theorem cl8_pk {f : Int32} {D : Dg} : pkD f (cl8 D) = cl8 (pkD f D) := rfl
theorem cl8_rcv {s0 s1 v : Int32} {D : Dg} : rcvD s0 s1 (cl8 D) v = cl8 (rcvM s0 s1 D v) := by
  unfold rcvD rcvM
  show (_, _, _, _) = (_, _, srt _, _)
  by_cases q : s1 ≤ nI D.2.1.length
  · rw [if_pos q, if_pos (show s1 ≤ nI (cl8 D).2.1.length from q), ← srt_ins]
    rfl
  · rw [if_neg q, if_neg (show ¬ s1 ≤ nI (cl8 D).2.1.length from q), ← srt_ins]
    rfl
theorem cl8_rcvN {s0 s1 v : Int32} {D : Dg} : ∀ n, rcvN s0 s1 (cl8 D) v n = cl8 (rcvMN s0 s1 D v n)
  | 0 => rfl
  | n + 1 => by rw [rcvN, cl8_rcvN n, cl8_rcv]; rfl
theorem cl8_to {f : Int32} {D D2 : Dg} : toD f (cl8 D2) (cl8 D) = cl8 (toM f D2 D D2.2.2.1.length) := by
  show (_, _, (srt D2.2.2.1).foldl ins (srt D.2.2.1), _) = (_, _, srt (D.2.2.1 ++ D2.2.2.1.take D2.2.2.1.length), _)
  rw [srt_join, List.take_length]
  rfl

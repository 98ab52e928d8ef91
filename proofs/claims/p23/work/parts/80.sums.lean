/-! the sum of a digest is the sum of its values -/
theorem mg_s {f tot : Int32} : ∀ (r : List Hp) (a : Int32) (o : Hp), lsum ((mg f tot a o r).map h_s) = h_s o + lsum (r.map h_s)
  | [], _, _ => rfl
  | x :: r, a, o => by
    unfold mg
    split
    · rw [mg_s r]
      show h_s o + h_s x + _ = h_s o + (h_s x + _)
      rw [Int32.add_assoc]
    · show h_s o + lsum ((mg f tot (a + h_w o) x r).map h_s) = h_s o + (h_s x + _)
      rw [mg_s r]
theorem ptog_s {f : Int32} : ∀ (A : List Hp), lsum ((ptog f A).map h_s) = lsum (A.map h_s)
  | [] => rfl
  | x :: r => mg_s r _ x
theorem packL_s {f : Int32} {A : List Hp} : lsum ((packL f A).map h_s) = lsum (A.map h_s) := by
  rw [packL, ptog_s]
  exact lsum_perm (order_perm.map h_s)
theorem lsum_units_s : ∀ (B : List Int32), lsum ((B.map hunit).map h_s) = lsum B
  | [] => rfl
  | x :: r => by
    show x + lsum ((r.map hunit).map h_s) = x + lsum r
    rw [lsum_units_s r]
def DS (D : Dg) : Prop := lsum (D.1.map h_s) + lsum D.2.1 = lsum D.2.2.1
theorem DS_pk {f : Int32} {D : Dg} (h : DS D) : DS (pkD f D) := by
  show lsum ((packL f (D.1 ++ D.2.1.map hunit)).map h_s) + 0 = lsum D.2.2.1
  rw [packL_s, List.map_append, lsum_app, lsum_units_s, Int32.add_zero]
  exact h
theorem DS_rcvM {s0 s1 v : Int32} {D : Dg} (h : DS D) : DS (rcvM s0 s1 D v) := by
  have hE : DS (if s1 ≤ nI D.2.1.length then pkD s0 D else D) := by
    by_cases q : s1 ≤ nI D.2.1.length
    · rw [if_pos q]; exact DS_pk h
    · rw [if_neg q]; exact h
  unfold rcvM
  revert hE
  generalize (if s1 ≤ nI D.2.1.length then pkD s0 D else D) = E
  intro hE
  show lsum (E.1.map h_s) + lsum (E.2.1 ++ [v]) = lsum (E.2.2.1 ++ [v])
  rw [lsum_app, lsum_app, ← Int32.add_assoc, show lsum (E.1.map h_s) + lsum E.2.1 = lsum E.2.2.1 from hE]
theorem DS_rcvMN {s0 s1 v : Int32} {D : Dg} (h : DS D) : ∀ n, DS (rcvMN s0 s1 D v n)
  | 0 => h
  | n + 1 => DS_rcvM (DS_rcvMN h n)
theorem DS_toM {f : Int32} {D D2 : Dg} (h : DS D) (h2 : DS D2) : DS (toM f D2 D D2.2.2.1.length) := by
  have a := DS_pk (f := f) h
  have b := DS_pk (f := f) h2
  have a2 : lsum ((pkD f D).1.map h_s) + 0 = lsum D.2.2.1 := a
  have b2 : lsum ((pkD f D2).1.map h_s) + 0 = lsum D2.2.2.1 := b
  rw [Int32.add_zero] at a2 b2
  show lsum ((packL f ((pkD f D).1 ++ (pkD f D2).1)).map h_s) + 0 = lsum (D.2.2.1 ++ D2.2.2.1.take D2.2.2.1.length)
  rw [packL_s, List.map_append, lsum_app, Int32.add_zero, a2, b2, List.take_length, lsum_app]
theorem dSum_eq {D : Dg} (h : DS D) : dSum D.1 D.2.1 = isum D.2.2.1 D.2.2.1.length := by
  have e := isum_len (l := D.1.map h_s)
  rw [List.length_map] at e
  rw [dSum, e, isum_len, isum_len]
  exact h

/-! what holds of every digest: the weights are as many as the values -/
def lsum : List Int32 → Int32
  | [] => 0
  | x :: r => x + lsum r
theorem lsum_app : ∀ (a b : List Int32), lsum (a ++ b) = lsum a + lsum b
  | [], b => by show lsum b = 0 + lsum b; rw [Int32.zero_add]
  | x :: a, b => by show x + lsum (a ++ b) = x + lsum a + lsum b; rw [lsum_app a b, Int32.add_assoc]
theorem isum_take {l : List Int32} : ∀ (n : Nat), n ≤ l.length → isum l n = lsum (l.take n)
  | 0, _ => rfl
  | n + 1, h => by
    rw [isum, isum_take n (by omega), ← take_snoc (d := 0) (by omega), lsum_app]
    show _ = _ + (_ + 0)
    rw [Int32.add_zero]
theorem isum_len {l : List Int32} : isum l l.length = lsum l := by rw [isum_take _ (Nat.le_refl _), List.take_length]
theorem lsum_perm {a b : List Int32} (h : a.Perm b) : lsum a = lsum b := by
  induction h with
  | nil => rfl
  | cons x _ ih => show x + _ = x + _; rw [ih]
  | swap x y l => show y + (x + lsum l) = x + (y + lsum l); rw [← Int32.add_assoc, ← Int32.add_assoc, Int32.add_comm y x]
  | trans _ _ h1 h2 => exact h1.trans h2
theorem swp_perm {α : Type} {d : α} : ∀ (l : List α) (i : Nat), i + 1 < l.length → (swp d l i (i + 1)).Perm l
  | [], _, h => absurd h (Nat.not_lt_zero _)
  | [_], i, h => absurd h (by show ¬ i + 1 < 1; omega)
  | x :: y :: r, 0, _ => List.Perm.swap x y r
  | x :: y :: r, i + 1, h => List.Perm.cons x (swp_perm (d := d) (y :: r) i (Nat.lt_of_succ_lt_succ h))
theorem sift_perm {α : Type} {d : α} {gt : α → α → Bool} : ∀ (i : Nat) (l : List α), i < l.length ∨ i = 0 → (sift d gt i l).Perm l
  | 0, _, _ => List.Perm.refl _
  | i + 1, l, h => by
    have h2 : i + 1 < l.length := by omega
    unfold sift
    split
    · exact (sift_perm i _ (by rw [swp_len]; omega)).trans (swp_perm l i h2)
    · exact List.Perm.refl _
theorem ins_perm {l : List Int32} {v : Int32} : (ins l v).Perm (l ++ [v]) := sift_perm _ _ (by rw [List.length_append, List.length_singleton]; omega)
theorem oSort_perm {A : List Hp} : ∀ n, n < A.length ∨ n = 0 → (oSort A n).Perm A
  | 0, _ => List.Perm.refl _
  | n + 1, h => (sift_perm (n + 1) _ (by rw [oSort_len]; omega)).trans (oSort_perm n (by omega))
theorem order_perm {A : List Hp} : (order A).Perm A := oSort_perm _ (by omega)
theorem wTot_eq {A : List Hp} : wTot A = lsum (A.map h_w) := by
  have := isum_len (l := A.map h_w)
  rw [List.length_map] at this
  exact this
theorem mg_w {f tot : Int32} : ∀ (r : List Hp) (a : Int32) (o : Hp), lsum ((mg f tot a o r).map h_w) = h_w o + lsum (r.map h_w)
  | [], _, _ => rfl
  | x :: r, a, o => by
    unfold mg
    split
    · rw [mg_w r]
      show h_w o + h_w x + _ = h_w o + (h_w x + _)
      rw [Int32.add_assoc]
    · show h_w o + lsum ((mg f tot (a + h_w o) x r).map h_w) = h_w o + (h_w x + _)
      rw [mg_w r]
theorem ptog_w {f : Int32} : ∀ (A : List Hp), lsum ((ptog f A).map h_w) = lsum (A.map h_w)
  | [] => rfl
  | x :: r => mg_w r _ x
theorem packL_w {f : Int32} {A : List Hp} : wTot (packL f A) = wTot A := by
  rw [wTot_eq, wTot_eq, packL, ptog_w]
  exact lsum_perm (order_perm.map h_w)
theorem lsum_units : ∀ (B : List Int32), lsum ((B.map hunit).map h_w) = nI B.length
  | [] => rfl
  | x :: r => by
    show 1 + lsum ((r.map hunit).map h_w) = nI (r.length + 1)
    rw [lsum_units r, Int32.add_comm]
    exact nI_add _ _
theorem wTot_app {A B : List Hp} : wTot (A ++ B) = wTot A + wTot B := by rw [wTot_eq, wTot_eq, wTot_eq, List.map_append, lsum_app]
theorem wTot_units {B : List Int32} : wTot (B.map hunit) = nI B.length := by rw [wTot_eq, lsum_units]
theorem pkD_W {f : Int32} {D : Dg} : wTot (pkD f D).1 = dW D.1 D.2.1 := by
  show wTot (packL f _) = _
  rw [packL_w, wTot_app, wTot_units]
  rfl
theorem dW_nil {A : List Hp} : dW A [] = wTot A := Int32.add_zero _
theorem LI_pk {f : Int32} {D : Dg} (h : LI D) : LI (pkD f D) := by
  obtain ⟨h1, h2, h3, h4⟩ := h
  have hp := pkD_len (f := f) (D := D)
  refine ⟨?_, h2, Nat.zero_le _, ?_⟩
  · show (pkD f D).1.length + 0 ≤ D.2.2.1.length
    omega
  · show dW (pkD f D).1 [] = nI D.2.2.1.length
    rw [dW_nil, pkD_W, h4]
theorem LI_rcv {s0 s1 v : Int32} {D : Dg} (h : LI D) (hs : s1 ≤ 20) (hV : D.2.2.1.length < 200) : LI (rcvD s0 s1 D v) := by
  have hl := rcvD_len (s0 := s0) (s1 := s1) (v := v) h.1
  have key : ∀ E : Dg, LI E → E.2.1.length < 20 → E.2.2.1.length < 200 → LI (E.1, E.2.1 ++ [v], ins E.2.2.1 v, E.2.2.2) := by
    intro E hE hB hV2
    obtain ⟨h1, h2, h3, h4⟩ := hE
    refine ⟨?_, ?_, ?_, ?_⟩
    · show E.1.length + (E.2.1 ++ [v]).length ≤ (ins E.2.2.1 v).length
      rw [ins_len, List.length_append, List.length_singleton]; omega
    · show (ins E.2.2.1 v).length ≤ 200
      rw [ins_len]; omega
    · show (E.2.1 ++ [v]).length ≤ 20
      rw [List.length_append, List.length_singleton]; omega
    · show dW E.1 (E.2.1 ++ [v]) = nI (ins E.2.2.1 v).length
      unfold dW at h4 ⊢
      rw [ins_len, List.length_append, List.length_singleton, ← nI_add, ← Int32.add_assoc, h4]
      exact nI_add _ _
  unfold rcvD
  by_cases q : s1 ≤ nI D.2.1.length
  · rw [if_pos q]
    exact key _ (LI_pk h) (by show 0 < 20; omega) hV
  · rw [if_neg q]
    refine key _ h ?_ hV
    have hB := h.2.2.1
    have h3 : nI D.2.1.length < nI 20 := Int32.lt_of_lt_of_le (Int32.not_le.mp q) hs
    exact (nI_ltI (by omega) (by omega)).mp h3
theorem LI_rcvN {s0 s1 v : Int32} {D : Dg} (h : LI D) (hs : s1 ≤ 20) : ∀ n, D.2.2.1.length + n ≤ 200 → LI (rcvN s0 s1 D v n)
  | 0, _ => h
  | n + 1, hn => LI_rcv (LI_rcvN h hs n (by omega)) hs (by rw [(rcvN_len h.1 n).2]; omega)
theorem LI_to {f : Int32} {D D2 : Dg} (h : LI D) (h2 : LI D2) (hV : D.2.2.1.length + D2.2.2.1.length ≤ 200) : LI (toD f D2 D) := by
  have a := LI_pk (f := f) h
  have b := LI_pk (f := f) h2
  refine ⟨?_, ?_, Nat.zero_le _, ?_⟩
  · show (packL f ((pkD f D).1 ++ (pkD f D2).1)).length + 0 ≤ (D2.2.2.1.foldl ins D.2.2.1).length
    have hp := packL_len (f := f) (A := (pkD f D).1 ++ (pkD f D2).1)
    have a1 := a.1
    have b1 := b.1
    rw [List.length_append] at hp
    rw [foldl_ins_len]
    have a2 : (pkD f D).2.2.1.length = D.2.2.1.length := rfl
    have b2 : (pkD f D2).2.2.1.length = D2.2.2.1.length := rfl
    omega
  · show (D2.2.2.1.foldl ins D.2.2.1).length ≤ 200
    rw [foldl_ins_len]; omega
  · show dW (packL f ((pkD f D).1 ++ (pkD f D2).1)) [] = nI (D2.2.2.1.foldl ins D.2.2.1).length
    rw [dW_nil, packL_w, wTot_app, pkD_W, pkD_W, h.2.2.2, h2.2.2.2, foldl_ins_len]
    exact nI_add _ _
theorem XI_setD {X : SS} {i : Nat} {D : Dg} (h : XI X) (hD : LI D) : XI (setD X i D) := by
  refine ⟨fun j hj => ?_, h.2⟩
  by_cases q : j = i
  · subst q; rw [setD_i]; exact hD
  · rw [setD_n q]; exact h.1 j hj
/-! what the text's parts make of the digests -/
def rcvL (s0 s1 : Int32) (D : Dg) (vs : List Int32) : Dg := vs.foldl (rcvD s0 s1) D
theorem rcvL_take {s0 s1 : Int32} {D : Dg} {vs : List Int32} {i : Nat} (h : i < vs.length) : rcvL s0 s1 D (vs.take (i + 1)) = rcvD s0 s1 (rcvL s0 s1 D (vs.take i)) (vs.getD i 0) := by
  rw [← take_snoc (d := 0) h, rcvL, List.foldl_append]
  rfl
theorem LI_rcvL {s0 s1 : Int32} (hs : s1 ≤ 20) : ∀ {vs : List Int32} {D : Dg}, LI D → D.2.2.1.length + vs.length ≤ 200 → LI (rcvL s0 s1 D vs) ∧ (rcvL s0 s1 D vs).2.2.1.length = D.2.2.1.length + vs.length
  | [], D, h, _ => ⟨h, rfl⟩
  | v :: vs, D, h, hl => by
    rw [List.length_cons] at hl ⊢
    have e := (rcvD_len (s0 := s0) (s1 := s1) (v := v) h.1).2
    have := LI_rcvL (s0 := s0) hs (vs := vs) (LI_rcv (s0 := s0) (v := v) h hs (by omega)) (by rw [e]; omega)
    refine ⟨this.1, this.2.trans ?_⟩
    rw [e]; omega
def plS (t : List Int32) : Nat → Nat → SS → SS
  | 0, _, X => X
  | n + 1, s, X => if s < t.length then plS t n (rF t s).2.2.2 (setD X (rF t s).2.1.toNatClampNeg (rcvL X.1 X.2.1 (X.2.2 (rF t s).2.1.toNatClampNeg) (rF t s).2.2.1)) else X
theorem Wof_eq {X : SS} (h : XI X) : Wof X = [nI (X.2.2 0).2.2.1.length, nI (X.2.2 1).2.2.1.length, nI (X.2.2 2).2.2.1.length] := by
  rw [Wof, (h.1 0 (by omega)).2.2.2, (h.1 1 (by omega)).2.2.2, (h.1 2 (by omega)).2.2.2]
theorem Wof_get {X : SS} (h : XI X) {i : Nat} (hi : i < 3) : (Wof X).getD i 0 = nI (X.2.2 i).2.2.1.length := by
  rw [Wof_eq h]
  rcases (show i = 0 ∨ i = 1 ∨ i = 2 by omega) with rfl | rfl | rfl <;> rfl
/-- a part without fault -/
theorem rO_0 {X : SS} {t : List Int32} {s : Nat} (h : XI X) (h0 : rO (Wof X) (rF t s) = 0) : ∃ i, i < 3 ∧ (rF t s).2.1 = nI i ∧ (X.2.2 i).2.2.1.length + (rF t s).2.2.1.length ≤ 200 := by
  unfold rO at h0
  split at h0
  · omega
  · rename_i q1
    split at h0
    · omega
    · rename_i q2
      split at h0
      · omega
      · rename_i q3
        obtain ⟨n, hn, e⟩ := rF_d (t := t) (s := s) (by cases hh : (rF t s).1 with | true => rfl | false => exact absurd hh q1)
        rw [e] at q2 q3
        have hn3 : n < 3 := (nI_ltI (by omega) (by omega)).mp (Int32.not_le.mp q2)
        have hv := (h.1 n hn3).2.1
        have hl := (rF_e (t := t) (s := s)).2
        rw [nI_clamp (by omega), Wof_get h hn3, nI_add] at q3
        exact ⟨n, hn3, e, (nI_leI (by omega) (by omega)).mp (Int32.not_lt.mp q3)⟩
theorem rW_0 {X : SS} {t : List Int32} {s i : Nat} (h : XI X) (h0 : rO (Wof X) (rF t s) = 0) (hi : i < 3) (e : (rF t s).2.1 = nI i) (hl : (X.2.2 i).2.2.1.length + (rF t s).2.2.1.length ≤ 200) :
    XI (setD X i (rcvL X.1 X.2.1 (X.2.2 i) (rF t s).2.2.1)) ∧ rW (Wof X) (rF t s) = Wof (setD X i (rcvL X.1 X.2.1 (X.2.2 i) (rF t s).2.2.1)) := by
  have k := LI_rcvL (s0 := X.1) h.2 (h.1 i hi) hl
  have hX := XI_setD (i := i) h k.1
  refine ⟨hX, ?_⟩
  rw [rW, if_pos h0, e, nI_clamp (by omega), Wof_get h hi, nI_add, ← k.2, Wof_eq hX, Wof_eq h]
  rcases (show i = 0 ∨ i = 1 ∨ i = 2 by omega) with rfl | rfl | rfl <;> rfl
theorem plS_1 {t : List Int32} {n s i : Nat} {X : SS} (h : s < t.length) (hi : i < 3) (e : (rF t s).2.1 = nI i) : plS t (n + 1) s X = plS t n (rF t s).2.2.2 (setD X i (rcvL X.1 X.2.1 (X.2.2 i) (rF t s).2.2.1)) := by
  rw [plS, if_pos h, e, nI_clamp (by omega)]
theorem ff_1 {t : List Int32} {n s : Nat} {W : List Int32} (h : s < t.length) (hf : ff t (n + 1) s W = none) : rO W (rF t s) = 0 ∧ ff t n (rF t s).2.2.2 (rW W (rF t s)) = none := by
  rw [ff, if_pos h] at hf
  by_cases q : rO W (rF t s) = 0
  · rw [if_pos q] at hf; exact ⟨q, hf⟩
  · rw [if_neg q] at hf; cases hf
def cPly (X : SS) (t : List Int32) : Int32 := dW ((plS t 60 0 X).2.2 0).1 ((plS t 60 0 X).2.2 0).2.1 + dW ((plS t 60 0 X).2.2 1).1 ((plS t 60 0 X).2.2 1).2.1 + dW ((plS t 60 0 X).2.2 2).1 ((plS t 60 0 X).2.2 2).2.1

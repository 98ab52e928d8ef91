/-! what the model's public methods answer -/
def GX (X : SS) : Prop := (∀ i, i < 3 → GD (X.2.2 i)) ∧ X.2.1 ≤ 20
theorem GX.I {X : SS} (h : GX X) : XI X := ⟨fun i hi => (h.1 i hi).1, h.2⟩
theorem GX.L {X : SS} (h : GX X) : LX X := h.I.L
theorem GX_setD {X : SS} {i : Nat} {D : Dg} (h : GX X) (hD : GD D) : GX (setD X i D) := by
  refine ⟨fun j hj => ?_, h.2⟩
  by_cases q : j = i
  · subst q; rw [setD_i]; exact hD
  · rw [setD_n q]; exact h.1 j hj
theorem rcvM_V {s0 s1 v : Int32} {D : Dg} : (rcvM s0 s1 D v).2.2.1 = D.2.2.1 ++ [v] := by
  unfold rcvM
  by_cases q : s1 ≤ nI D.2.1.length
  · rw [if_pos q]; rfl
  · rw [if_neg q]
theorem LI_rcvM {s0 s1 v : Int32} {D : Dg} (h : LI D) (hs : s1 ≤ 20) (hV : D.2.2.1.length < 200) : LI (rcvM s0 s1 D v) := by
  obtain ⟨a, b, c, d⟩ := LI_rcv (s0 := s0) (v := v) h hs hV
  have e : (rcvM s0 s1 D v).2.2.1.length = (rcvD s0 s1 D v).2.2.1.length := by
    rw [rcvM_V, (rcvD_len h.1).2, List.length_append, List.length_singleton]
  refine ⟨?_, ?_, c, ?_⟩
  · rw [e]; exact a
  · rw [e]; exact b
  · rw [e]; exact d
theorem GD_rcvM {s0 s1 v : Int32} {D : Dg} (h : GD D) (hs : s1 ≤ 20) (hV : D.2.2.1.length < 200) (hv : Vn v) : GD (rcvM s0 s1 D v) := by
  have hE : GD (if s1 ≤ nI D.2.1.length then pkD s0 D else D) := by
    by_cases q : s1 ≤ nI D.2.1.length
    · rw [if_pos q]; exact GD_pk h
    · rw [if_neg q]; exact h
  refine ⟨LI_rcvM h.1 hs hV, hE.2.1, fun x hx => ?_, fun x hx => ?_⟩
  · rcases List.mem_append.mp hx with q | q
    · exact hE.2.2.1 x q
    · rw [List.mem_singleton.mp q]; exact hv
  · rw [rcvM_V] at hx
    rcases List.mem_append.mp hx with q | q
    · exact h.2.2.2 x q
    · rw [List.mem_singleton.mp q]; exact hv
def rcvMN (s0 s1 : Int32) (D : Dg) (v : Int32) : Nat → Dg
  | 0 => D
  | n + 1 => rcvM s0 s1 (rcvMN s0 s1 D v n) v
theorem GD_rcvMN {s0 s1 v : Int32} {D : Dg} (h : GD D) (hs : s1 ≤ 20) (hv : Vn v) : ∀ n, D.2.2.1.length + n ≤ 200 → GD (rcvMN s0 s1 D v n) ∧ (rcvMN s0 s1 D v n).2.2.1.length = D.2.2.1.length + n
  | 0, _ => ⟨h, rfl⟩
  | n + 1, hn => by
    obtain ⟨a, b⟩ := GD_rcvMN (s0 := s0) h hs hv n (by omega)
    refine ⟨GD_rcvM a hs (by omega) hv, ?_⟩
    rw [rcvMN, rcvM_V, List.length_append, List.length_singleton, b]
    omega
def mAdd1 (X : SS) (h : List SS) (i : Nat) (v tm : Int32) : Int32 × SS × List SS :=
  if ¬ (nI 0 ≤ v ∧ v ≤ nI 9999) then (cINV, X, h) else if ¬ (nI 1 ≤ tm ∧ tm ≤ nI 20) then (cINV, X, h) else if nI 200 < nI (X.2.2 i).2.2.1.length + tm then (cLIM, X, h)
  else (nI ((X.2.2 i).2.2.1.length + tm.toNatClampNeg), setD X i (rcvMN X.1 X.2.1 (X.2.2 i) v tm.toNatClampNeg), recH h X)
def mAdd (X : SS) (h : List SS) (x v tm : Int32) : Int32 × SS × List SS := if ¬ (nI 0 ≤ x ∧ x ≤ nI 2) then (cINV, X, h) else mAdd1 X h x.toNatClampNeg v tm
def mPack (X : SS) (h : List SS) (x : Int32) : Int32 × SS × List SS := if ¬ (nI 0 ≤ x ∧ x ≤ nI 2) then (cINV, X, h) else cPack X h x.toNatClampNeg
def mClear (X : SS) (h : List SS) (x : Int32) : Int32 × SS × List SS := if ¬ (nI 0 ≤ x ∧ x ≤ nI 2) then (cINV, X, h) else cClear X h x.toNatClampNeg
def mBuf (X : SS) (x y : Int32) : Int32 := if ¬ (nI 0 ≤ x ∧ x ≤ nI 2) then cINV else cBuf X x.toNatClampNeg y

/-! the public methods of the class: what they answer, what they make of the state and of the history -/
def LI (D : Dg) : Prop := D.1.length + D.2.1.length ≤ D.2.2.1.length ∧ D.2.2.1.length ≤ 200 ∧ D.2.1.length ≤ 20 ∧ dW D.1 D.2.1 = nI D.2.2.1.length
def XI (X : SS) : Prop := (∀ i, i < 3 → LI (X.2.2 i)) ∧ X.2.1 ≤ 20
theorem CR_D {σ : St} {X : SS} {h : List SS} {t : List Int32} {i : Nat} (hc : CR σ X h t) (hi : i < 3) : DX σ (3 + 14 * i) (X.2.2 i) := by
  have := hc.1.2 i hi
  rw [Nat.zero_add] at this
  exact this
theorem setD_id {X : SS} {i : Nat} : setD X i (X.2.2 i) = X := by
  unfold setD
  congr 2
  funext j
  by_cases q : j = i
  · rw [if_pos q, q]
  · rw [if_neg q]
theorem setD_setD {X : SS} {i : Nat} {D E : Dg} : setD (setD X i D) i E = setD X i E := by
  unfold setD
  congr 2
  funext j
  by_cases q : j = i
  · rw [if_pos q, if_pos q]
  · rw [if_neg q, if_neg q]; exact if_neg q
def rcvN (s0 s1 : Int32) (D : Dg) (v : Int32) : Nat → Dg
  | 0 => D
  | n + 1 => rcvD s0 s1 (rcvN s0 s1 D v n) v
theorem pkD_len {f : Int32} {D : Dg} : (pkD f D).1.length ≤ D.1.length + D.2.1.length := by
  have := packL_len (f := f) (A := D.1 ++ D.2.1.map hunit)
  rw [List.length_append, List.length_map] at this
  exact this
theorem rcvD_len {s0 s1 v : Int32} {D : Dg} (h : D.1.length + D.2.1.length ≤ D.2.2.1.length) : (rcvD s0 s1 D v).1.length + (rcvD s0 s1 D v).2.1.length ≤ (rcvD s0 s1 D v).2.2.1.length ∧ (rcvD s0 s1 D v).2.2.1.length = D.2.2.1.length + 1 := by
  have hp := pkD_len (f := s0) (D := D)
  unfold rcvD
  by_cases q : s1 ≤ nI D.2.1.length
  · rw [if_pos q]
    show (pkD s0 D).1.length + ((pkD s0 D).2.1 ++ [v]).length ≤ (ins (pkD s0 D).2.2.1 v).length ∧ (ins (pkD s0 D).2.2.1 v).length = _
    rw [ins_len]
    show (pkD s0 D).1.length + 1 ≤ D.2.2.1.length + 1 ∧ D.2.2.1.length + 1 = _
    omega
  · rw [if_neg q]
    show D.1.length + (D.2.1 ++ [v]).length ≤ (ins D.2.2.1 v).length ∧ (ins D.2.2.1 v).length = _
    rw [ins_len, List.length_append, List.length_singleton]
    omega
theorem rcvN_len {s0 s1 v : Int32} {D : Dg} (h : D.1.length + D.2.1.length ≤ D.2.2.1.length) : ∀ n, (rcvN s0 s1 D v n).1.length + (rcvN s0 s1 D v n).2.1.length ≤ (rcvN s0 s1 D v n).2.2.1.length ∧ (rcvN s0 s1 D v n).2.2.1.length = D.2.2.1.length + n
  | 0 => ⟨h, rfl⟩
  | n + 1 => by
    have a := rcvN_len (s0 := s0) (s1 := s1) (v := v) h n
    have b := rcvD_len (s0 := s0) (s1 := s1) (v := v) a.1
    rw [rcvN]
    omega
abbrev cINV : Int32 := (-1000001 : Int32)
abbrev cNP : Int32 := (-1000002 : Int32)
abbrev cLIM : Int32 := (-1000003 : Int32)
abbrev cNF : Int32 := (-1000004 : Int32)
def cAdd (X : SS) (h : List SS) (i : Nat) (v tm : Int32) : Int32 × SS × List SS :=
  if ¬ (nI 0 ≤ v ∧ v ≤ nI 9999) then (cINV, X, h) else if ¬ (nI 1 ≤ tm ∧ tm ≤ nI 20) then (cINV, X, h) else if nI 200 < nI (X.2.2 i).2.2.1.length + tm then (cLIM, X, h)
  else (dW (rcvN X.1 X.2.1 (X.2.2 i) v tm.toNatClampNeg).1 (rcvN X.1 X.2.1 (X.2.2 i) v tm.toNatClampNeg).2.1, setD X i (rcvN X.1 X.2.1 (X.2.2 i) v tm.toNatClampNeg), recH h X)
def cPack (X : SS) (h : List SS) (i : Nat) : Int32 × SS × List SS := (nI (pkD X.1 (X.2.2 i)).1.length, setD X i (pkD X.1 (X.2.2 i)), recH h X)
def cJoin (X : SS) (h : List SS) (i j : Nat) : Int32 × SS × List SS :=
  if i = j then (cINV, X, h) else if 200 < (X.2.2 i).2.2.1.length + (X.2.2 j).2.2.1.length then (cLIM, X, h)
  else (dW (toD X.1 (X.2.2 i) (X.2.2 j)).1 [], setD (setD X i (pkD X.1 (X.2.2 i))) j (toD X.1 (X.2.2 i) (X.2.2 j)), recH h X)
def cClear (X : SS) (h : List SS) (i : Nat) : Int32 × SS × List SS := (nI (X.2.2 i).2.2.1.length, setD X i ([], [], [], (X.2.2 i).2.2.2), recH h X)
def setS (X : SS) (n : Nat) (v : Int32) : SS := if n = 0 then (v, X.2.1, X.2.2) else (X.1, v, X.2.2)
def cSet (X : SS) (h : List SS) (w v : Int32) : Int32 × SS × List SS :=
  if ¬ (nI 0 ≤ w ∧ w ≤ nI 1) then (cINV, X, h) else if ¬ (nI 1 ≤ v ∧ v ≤ (if w = 0 then nI 60 else nI 20)) then (cINV, X, h) else ([X.1, X.2.1].getD w.toNatClampNeg 0, setS X w.toNatClampNeg v, recH h X)
def cBuf (X : SS) (i : Nat) (x : Int32) : Int32 := if x < 0 then cINV else if nI (X.2.2 i).2.1.length ≤ x then cNF else (X.2.2 i).2.1.getD x.toNatClampNeg 0
def trL (X : SS) (i : Nat) : List Hp := packL X.1 ((X.2.2 i).1 ++ (X.2.2 i).2.1.map hunit)
def dOf (X : SS) (i : Nat) : Nat → Int32
  | 0 => nI (X.2.2 i).2.2.1.length
  | 1 => nI (X.2.2 i).1.length
  | 2 => nI (X.2.2 i).2.1.length
  | 3 => if (X.2.2 i).2.2.1.length = 0 then cNF else dLeast (X.2.2 i).1 (X.2.2 i).2.1
  | 4 => if (X.2.2 i).2.2.1.length = 0 then cNF else dGreatest (X.2.2 i).1 (X.2.2 i).2.1
  | 5 => dSum (X.2.2 i).1 (X.2.2 i).2.1
  | 6 => nI (trL X i).length
  | 7 => if (X.2.2 i).1.length = 0 then cNF else imax ((X.2.2 i).1.map h_w) (X.2.2 i).1.length
  | _ => (X.2.2 i).2.2.2
def cDig (X : SS) (i : Nat) (w : Int32) : Int32 := if ¬ (nI 0 ≤ w ∧ w ≤ nI 8) then cINV else dOf X i w.toNatClampNeg
def trV (V : List Int32) (q : Nat) : Int32 := V.getD (q * (V.length - 1) / 1000) 0
def cQua (X : SS) (i : Nat) (q : Int32) : Int32 := if ¬ (nI 0 ≤ q ∧ q ≤ nI 1000) then cINV else if (X.2.2 i).2.2.1.length = 0 then cNP else qAt (trL X i) q
def cTru (X : SS) (i : Nat) (q : Int32) : Int32 := if ¬ (nI 0 ≤ q ∧ q ≤ nI 1000) then cINV else if (X.2.2 i).2.2.1.length = 0 then cNP else trV (X.2.2 i).2.2.1 q.toNatClampNeg
def absI (x : Int32) : Int32 := if 0 ≤ x then x else 0 - x
def wrS (A : List Hp) (V : List Int32) : Nat → Int32 × Int32
  | 0 => ((-1), nI 0)
  | k + 1 => if (wrS A V k).1 < absI (qAt A (nI (100 * k)) - trV V (100 * k)) then (absI (qAt A (nI (100 * k)) - trV V (100 * k)), nI (100 * k)) else wrS A V k
def cWor (X : SS) (i : Nat) (w : Int32) : Int32 := if ¬ (nI 0 ≤ w ∧ w ≤ nI 1) then cINV else if (X.2.2 i).2.2.1.length = 0 then cNP else if w = 0 then (wrS (trL X i) (X.2.2 i).2.2.1 11).2 else (wrS (trL X i) (X.2.2 i).2.2.1 11).1
def cRan (X : SS) (i : Nat) (v : Int32) : Int32 := if ¬ (nI 0 ≤ v ∧ v ≤ nI 9999) then cINV else if (X.2.2 i).2.2.1.length = 0 then cNP else rkS (trL X i) v 10 (-1)
def cWid (X : SS) (i : Nat) (q : Int32) : Int32 := if ¬ (nI 0 ≤ q ∧ q ≤ nI 1000) then cINV else if (X.2.2 i).2.2.1.length = 0 then cNP else wAt (nI (q.toNatClampNeg * ((X.2.2 i).2.2.1.length - 1) / 1000)) (nI 0) (trL X i)
def sfS (V : List Int32) (x : Int32) : Nat → Nat → Int32
  | 0, _ => cNF
  | n + 1, f => if nI (packL (nI f) (V.map hunit)).length < x then sfS V x n (f + 1) else nI f
def cSfo (X : SS) (i : Nat) (x : Int32) : Int32 := if ¬ (nI 1 ≤ x ∧ x ≤ nI 60) then cINV else sfS (X.2.2 i).2.2.1 x 60 1
def cTyp (t : List Int32) (x : Int32) : Int32 × List Int32 := if ¬ (nI 32 ≤ x ∧ x ≤ nI 126) then (cINV, t) else if 60 ≤ t.length then (cLIM, t) else (nI (t.length + 1), t ++ [x])
theorem CR_set {σ : St} {X : SS} {h : List SS} {t : List Int32} {n : Nat} {v : Int32} (hc : CR σ X h t) (hn : n < 2) : CR (up σ 1 ((σ 1).set n v)) (setS X n v) h t := by
  obtain ⟨a, ⟨O, hO, b, c, d, f⟩, g⟩ := hc
  refine ⟨⟨?_, fun i hi => ?_⟩, ⟨O, hO, b, (up_n (by omega)).trans c, (up_n (by omega)).trans d, fun j Y hj => (f j Y hj).congr (fun k h1 h2 => up_n ?_)⟩, (up_n (by omega)).trans g⟩
  · show up σ 1 ((σ 1).set n v) 1 = _
    rw [up_s, show σ 1 = [X.1, X.2.1] from a.1]
    rcases (show n = 0 ∨ n = 1 by omega) with rfl | rfl <;> rfl
  · have e : (setS X n v).2.2 = X.2.2 := by
      unfold setS
      split <;> rfl
    rw [e]
    exact (a.2 i hi).congr (fun j h1 h2 => up_n (by omega))
  · have hl := (List.getElem?_eq_some_iff.mp hj).1
    have := (hO.1 j (by omega)).1
    omega
theorem rng_nat {x : Int32} {a b : Nat} (ha : a < 2 ^ 31) (hb : b < 2 ^ 31) (h : nI a ≤ x ∧ x ≤ nI b) : ∃ n, a ≤ n ∧ n ≤ b ∧ x = nI n := by
  obtain ⟨h1, h2⟩ := h
  obtain ⟨m, hm, e⟩ := nI_of2 (x := x) (M := nI b) (n := b) (nI_toInt hb) (fun z => by
    have p := Int32.le_iff_toInt_le.mp h1
    have q := Int32.lt_iff_toInt_lt.mp z
    rw [nI_toInt ha] at p
    rw [show (0 : Int32).toInt = 0 from by decide] at q
    omega) h2
  rw [e] at h1
  exact ⟨m, (nI_leI ha (by omega)).mp h1, hm, e⟩
theorem pos_nat {x : Int32} (h : ¬ x < 0) : ∃ n, n < 2 ^ 31 ∧ x = nI n := nI_of h
def FR (u : St) : Option (Nat × Nat × Int32) → Prop
  | none => (u 232).getD 1 0 = nI 0
  | some q => u 232 = [nI q.1, nI q.2.1, q.2.2]
section QVR
variable {p : Program} {l : Launch} {e : Env} {R : Room} {s : State} {m : MethodId} {args : Array Value} {below : List Frame} {meth : Method} {c : Code} {H : Heap} {locs : List Loc} {cells slots : Nat} {Q : State → Prop}
variable {cc : ByteArray} {pc tgt nL index : Nat} {off : Int} {own : String} {ls : Array Slot} {rest st0 : List Value} {L : Lay} {H0 : Heap} {σ σ' : St} {k : Nat}
theorem q_VR0 {Post : St → Prop} (S : CallFix p m c cc nL s args qA own) (hI : Inj L) (hK : Kn L s) (h : Hd L s.heap H σ locs) {y : MethodName} {C : String} {T : u_T} {N ci maxL n : Nat} {bytes : ByteArray} {ret : Option FieldType} {rm : Room} (As : List Value) (hM : Mg l L y (Cond.code y bytes maxL ret :: qA) rm (.ref (ad L k) :: As) σ (fun r u => r = none ∧ Post u))
    (hk : kd k = ci) (hc : vwCl[ci]? = some (C, T, N)) (hci : ci < 8) (w1 : Cond.methodLink own index y ∈ qA) (w2 : Cond.instanceMethod y ∈ qA) (w3 : Cond.selects C y y ∈ qA) (w4 : Cond.initialized C ∈ qA) (w5 : Cond.code y bytes maxL ret ∈ qA)
    (hd : ydV y C n) (hn : As.length = n) (hR : rmFit rm R maxL cells slots) (hstk : st0 = As.reverse ++ .ref (ad L k) :: rest) (hrest : (rest.map fun v => v.category).sum ≤ 8) (hsz : ls.size = nL) (hdg : decode cc pc = .ok (.invokevirtual index, 3))
    (kk : ∀ (u : St) (H1 : Heap) (locs1 : List Loc), Post u → Hd L s.heap H1 u locs1 → W p l e R s m args below meth c H1 locs1 cells slots Q (F0 m (pc + 3) ls rest)) : W p l e R s m args below meth c H locs cells slots Q (F0 m pc ls st0) := by
  refine q_VR S hI hK h As hM hk hc hci w1 w2 w3 w4 w5 hd hn hR hstk hrest hsz hdg (fun r u H1 locs1 hp h1 => ?_)
  obtain ⟨rfl, hp⟩ := hp
  exact kk u H1 locs1 hp h1
end QVR
theorem wrS_up {A : List Hp} {V : List Int32} {k : Nat} {f fq far : Int32} (hw : wrS A V k = (f, fq)) (hf : far = absI (qAt A (nI (100 * k)) - trV V (100 * k))) (h : ¬ far ≤ f) : wrS A V (k + 1) = (far, nI (100 * k)) := by
  have h2 := Int32.not_le.mp h
  rw [hf] at h2 ⊢
  rw [wrS, hw, if_pos h2]
theorem wrS_no {A : List Hp} {V : List Int32} {k : Nat} {f fq far : Int32} (hw : wrS A V k = (f, fq)) (hf : far = absI (qAt A (nI (100 * k)) - trV V (100 * k))) (h : far ≤ f) : wrS A V (k + 1) = (f, fq) := by
  rw [hf] at h
  rw [wrS, hw, if_neg (Int32.not_lt.mpr h)]

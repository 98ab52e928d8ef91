/-! The class's world: one list of 245 cells, named by numbers; what changes in it is a list of ints by such a number. -/
abbrev St : Type := Nat → List Int32
abbrev Lay : Type := va_G × ClassId × ClassId × (Nat → Nat)
def ad (L : Lay) (k : Nat) : Nat := L.2.2.2 k
def kdS : List Nat := [5,4,9, 0,1,4,9,4,9,4,9,4,9,4,9,4,9, 0,1,4,9,4,9,4,9,4,9,4,9,4,9, 0,1,4,9,4,9,4,9,4,9,4,9,4,9]
def kdR : List Nat := [2,10,4,9,3,4,9,6,4,9,1,4,9,4,9,4,9,4,9,7]
def kd (k : Nat) : Nat := if k < 225 then kdS.getD (k % 45) 99 else kdR.getD (k - 225) 99
def cpS : List Nat := [0,2,0, 0,0,200,0,200,0,200,0,200,0,20,0,200,0, 0,0,200,0,200,0,200,0,200,0,20,0,200,0, 0,0,200,0,200,0,200,0,200,0,20,0,200,0]
def cpR : List Nat := [0,0,60,0,0,60,0,0,3,0,0,200,0,200,0,200,0,200,0,0]
def cp (k : Nat) : Nat := if k < 225 then cpS.getD (k % 45) 0 else cpR.getD (k - 225) 0
def up (σ : St) (k : Nat) (l : List Int32) : St := fun j => if j = k then l else σ j
theorem up_s {σ : St} {k : Nat} {l : List Int32} : up σ k l k = l := if_pos rfl
theorem up_n {σ : St} {k j : Nat} {l : List Int32} (h : j ≠ k) : up σ k l j = σ j := if_neg h
theorem up_up {σ : St} {k : Nat} {l l' : List Int32} : up (up σ k l) k l' = up σ k l' := by
  funext j
  by_cases h : j = k
  · rw [h, up_s, up_s]
  · rw [up_n h, up_n h, up_n h]
theorem up_id {σ : St} {k : Nat} {l : List Int32} (h : σ k = l) : up σ k l = σ := by
  funext j
  by_cases hj : j = k
  · rw [hj, up_s, h]
  · rw [up_n hj]
theorem up_comm {σ : St} {i j : Nat} {a b : List Int32} (h : i ≠ j) : up (up σ i a) j b = up (up σ j b) i a := by
  funext q
  by_cases h1 : q = i
  · subst h1
    rw [up_n h, up_s, up_s]
  · rw [up_n (k := i) h1]
    by_cases h2 : q = j
    · rw [h2, up_s, up_s]
    · rw [up_n h2, up_n h2, up_n h1]
/-- a row's array: its values, and behind them what was left there -/
def ph (σ : St) (J : Nat → Nat → Int32) (k : Nat) : Nat → Int32 := fun i => if i < (σ k).length then (σ k).getD i 0 else J k i
def cnt (L : Lay) (σ : St) (J : Nat → Nat → Int32) (k : Nat) : va_E :=
  match kd k with
  | 0 => .inr (0, [.ref (ad L (k+1)), .ref (ad L (k+10)), .ref (ad L (k+12)), .int ((σ k).getD 0 0)])
  | 1 => .inr (1, [.ref (ad L (k+1)), .ref (ad L (k+3)), .ref (ad L (k+5)), .ref (ad L (k+7))])
  | 2 => .inr (2, [.ref (ad L (k+1)), .int ((σ k).getD 0 0)])
  | 3 => .inr (3, [.ref (ad L (k+1)), .int ((σ k).getD 0 0), .int ((σ k).getD 1 0)])
  | 4 => .inr (4, [.ref (ad L (k+1)), .int (nI (σ k).length)])
  | 5 => .inr (5, [.ref (ad L (k+1)), .ref (ad L (k+3)), .ref (ad L (k+17)), .ref (ad L (k+31))])
  | 6 => .inr (6, [.ref (ad L (k+1)), .int ((σ k).getD 0 0), .int ((σ k).getD 1 0), .int ((σ k).getD 2 0)])
  | 7 => .inr (7, [.ref (ad L 0), .ref (ad L 225), .ref (ad L 227), .ref (ad L 229), .ref (ad L 232), .ref (ad L 235)])
  | 9 => .inl (L.2.1, cp (k-1), .inl (ph σ J (k-1)))
  | _ => .inl (L.2.2.1, 4, .inr (.inr (.inr (.inr (fun i => some (ad L (45 * ((σ k).getD i 0).toNatClampNeg)))))))
def wld (L : Lay) (σ : St) (J : Nat → Nat → Int32) : va_W := (List.range 245).map (fun k => (ad L k, cnt L σ J k))
theorem wld_at {L : Lay} {σ : St} {J : Nat → Nat → Int32} {k : Nat} (hk : k < 245) : (wld L σ J)[k]? = some (ad L k, cnt L σ J k) := by
  rw [wld, List.getElem?_map, List.getElem?_range hk]
  rfl
theorem wld_no {L : Lay} {σ : St} {J : Nat → Nat → Int32} {k : Nat} (hk : ¬ k < 245) : (wld L σ J)[k]? = none := by
  rw [List.getElem?_eq_none_iff]
  simp [wld]
  omega
theorem wld_set {L : Lay} {σ σ' : St} {J J' : Nat → Nat → Int32} {k : Nat} {e : va_E} (hk : k < 245) (h1 : cnt L σ' J' k = e) (h2 : ∀ j, j < 245 → j ≠ k → cnt L σ' J' j = cnt L σ J j) : (wld L σ J).set k (ad L k, e) = wld L σ' J' := by
  apply List.ext_getElem?
  intro j
  by_cases hj : j < 245
  · rw [wld_at hj]
    by_cases hjk : j = k
    · subst hjk
      rw [List.getElem?_set_self (by simp [wld]; omega), h1]
    · rw [List.getElem?_set_ne (Ne.symm hjk), wld_at hj, h2 j hj hjk]
  · rw [wld_no hj, List.getElem?_eq_none_iff]
    simp [wld]
    omega
def Inj (L : Lay) : Prop := ∀ i j, i < 245 → j < 245 → ad L i = ad L j → i = j
def Aw (L : Lay) : Nat → Prop := fun q => ∃ k, k < 245 ∧ q = ad L k
theorem wld_of {L : Lay} {σ : St} {J : Nat → Nat → Int32} {k : Nat} {q : Nat × va_E} (h : (wld L σ J)[k]? = some q) : k < 245 ∧ q = (ad L k, cnt L σ J k) := by
  by_cases hk : k < 245
  · rw [wld_at hk] at h
    exact ⟨hk, (Option.some.inj h).symm⟩
  · rw [wld_no hk] at h
    cases h
theorem Inj.D {L : Lay} (h : Inj L) (σ : St) (J : Nat → Nat → Int32) : va_D (Aw L) (wld L σ J) := by
  refine ⟨fun i j p q hi hj e => ?_, fun k q hk => ?_⟩
  · obtain ⟨h1, rfl⟩ := wld_of hi
    obtain ⟨h2, rfl⟩ := wld_of hj
    exact h i j h1 h2 e
  · obtain ⟨h1, rfl⟩ := wld_of hk
    exact ⟨k, h1, rfl⟩
def wok (σ : St) : Prop := ∀ k, kd k = 4 → (σ k).length ≤ cp k
abbrev tyL (L : Lay) : List (ClassId × FieldType) := [(L.2.1, .int), (L.2.2.1, .object RX5)]
def Kn (L : Lay) (U : State) : Prop := va_K L.1 vwCl (tyL L) U ∧ va_Nw (.methodLinkNest RX0 68 yX7_trueIndex RX7) U
def Pw (L : Lay) (σ : St) (H : Heap) : Prop := wok σ ∧ ∃ J, va_P L.1 vwCl (wld L σ J) H
def bs (L : Lay) (σ : St) (U : State) : Prop := Pw L σ U.heap ∧ Kn L U
def Hd (L : Lay) (H0 H : Heap) (σ : St) (locs : List Loc) : Prop := Pw L σ H ∧ va_S (Aw L) H0 H locs
/-- an end of any kind: the answer and the new state as 'post' has them -/
def Qg {S : Type} (post : Option Value → S → Prop) (B : S → State → Prop) (A : Nat → Prop) : Array Value → State → Outcome → State → Prop := fun _ st oc t => (∃ (r : Option Value) (u : S), oc = .returned r ∧ post r u ∧ B u t) ∧ va_F A st t
/-- a method's contract in the class's world -/
def Mg (l : Launch) (L : Lay) (y : MethodName) (ws : List Cond) (rm : Room) (as : List Value) (σ : St) (post : Option Value → St → Prop) : Prop :=
  Inj L → Met l y ws rm (va_Pc as (bs L σ)) (Qg post (bs L) (Aw L)) 0 0 (Aw L)
abbrev Mf (l : Launch) (L : Lay) (y : MethodName) (ws : List Cond) (rm : Room) (as : List Value) (σ : St) (r : Option Value) (σ' : St) : Prop :=
  Mg l L y ws rm as σ (fun r1 u => r1 = r ∧ u = σ')
theorem kd_lt : ∀ k n, n ≠ 99 → kd k = n → k < 245 := by
  intro k n hn h
  by_cases hk : k < 245
  · exact hk
  · unfold kd at h
    rw [if_neg (by omega)] at h
    have : kdR.getD (k - 225) 99 = 99 := by
      rw [List.getD_eq_getElem?_getD, List.getElem?_eq_none_iff.mpr (by simp [kdR]; omega)]
      rfl
    omega
theorem kd_9 : ∀ k, k < 245 → kd k = 9 → 0 < k ∧ kd (k - 1) = 4 := by decide +kernel
theorem kd_10 : ∀ k, k < 245 → kd k = 10 → k = 226 := by decide +kernel
theorem kd_in : ∀ k, k < 245 → kd k = 0 ∨ kd k = 1 ∨ kd k = 2 ∨ kd k = 3 ∨ kd k = 4 ∨ kd k = 5 ∨ kd k = 6 ∨ kd k = 7 ∨ kd k = 9 ∨ kd k = 10 := by decide +kernel
theorem kd_4n : ∀ k, k < 245 → kd k = 4 → kd (k + 1) = 9 ∧ k + 1 < 245 := by decide +kernel
theorem kd_0h : ∀ k, k < 245 → kd k = 0 → kd (k + 1) = 1 ∧ kd (k + 10) = 4 ∧ kd (k + 12) = 4 ∧ cp (k + 10) = 20 ∧ cp (k + 12) = 200 := by decide +kernel
theorem kd_1h : ∀ k, k < 245 → kd k = 1 → kd (k + 1) = 4 ∧ kd (k + 3) = 4 ∧ kd (k + 5) = 4 ∧ kd (k + 7) = 4 ∧ cp (k + 1) = 200 ∧ cp (k + 3) = 200 ∧ cp (k + 5) = 200 ∧ cp (k + 7) = 200 := by decide +kernel
theorem kd_5h : ∀ k, k < 245 → kd k = 5 → kd (k + 1) = 4 ∧ kd (k + 3) = 0 ∧ kd (k + 17) = 0 ∧ kd (k + 31) = 0 ∧ cp (k + 1) = 2 ∧ k % 45 = 0 ∧ k < 225 := by decide +kernel
theorem cp_le : ∀ k, k < 245 → cp k ≤ 200 := by decide +kernel
theorem kd_of {k n : Nat} (h : kd k = n) (hn : n ≠ 99 := by decide) : k < 245 := kd_lt k n hn h
theorem kd0_heaps {k : Nat} (h : kd k = 0) : kd (k + 1) = 1 := (kd_0h k (kd_of h) h).1
theorem kd0_buf {k : Nat} (h : kd k = 0) : kd (k + 10) = 4 := (kd_0h k (kd_of h) h).2.1
theorem kd0_val {k : Nat} (h : kd k = 0) : kd (k + 12) = 4 := (kd_0h k (kd_of h) h).2.2.1
theorem kd1_1 {k : Nat} (h : kd k = 1) : kd (k + 1) = 4 := (kd_1h k (kd_of h) h).1
theorem kd1_3 {k : Nat} (h : kd k = 1) : kd (k + 3) = 4 := (kd_1h k (kd_of h) h).2.1
theorem kd1_5 {k : Nat} (h : kd k = 1) : kd (k + 5) = 4 := (kd_1h k (kd_of h) h).2.2.1
theorem kd1_7 {k : Nat} (h : kd k = 1) : kd (k + 7) = 4 := (kd_1h k (kd_of h) h).2.2.2.1
theorem cnt_0 {L : Lay} {σ : St} {J : Nat → Nat → Int32} {k : Nat} (h : kd k = 0) : cnt L σ J k = .inr (0, [.ref (ad L (k+1)), .ref (ad L (k+10)), .ref (ad L (k+12)), .int ((σ k).getD 0 0)]) := by unfold cnt; rw [h]; rfl
theorem cnt_1 {L : Lay} {σ : St} {J : Nat → Nat → Int32} {k : Nat} (h : kd k = 1) : cnt L σ J k = .inr (1, [.ref (ad L (k+1)), .ref (ad L (k+3)), .ref (ad L (k+5)), .ref (ad L (k+7))]) := by unfold cnt; rw [h]; rfl
theorem cnt_2 {L : Lay} {σ : St} {J : Nat → Nat → Int32} {k : Nat} (h : kd k = 2) : cnt L σ J k = .inr (2, [.ref (ad L (k+1)), .int ((σ k).getD 0 0)]) := by unfold cnt; rw [h]; rfl
theorem cnt_3 {L : Lay} {σ : St} {J : Nat → Nat → Int32} {k : Nat} (h : kd k = 3) : cnt L σ J k = .inr (3, [.ref (ad L (k+1)), .int ((σ k).getD 0 0), .int ((σ k).getD 1 0)]) := by unfold cnt; rw [h]; rfl
theorem cnt_4 {L : Lay} {σ : St} {J : Nat → Nat → Int32} {k : Nat} (h : kd k = 4) : cnt L σ J k = .inr (4, [.ref (ad L (k+1)), .int (nI (σ k).length)]) := by unfold cnt; rw [h]; rfl
theorem cnt_5 {L : Lay} {σ : St} {J : Nat → Nat → Int32} {k : Nat} (h : kd k = 5) : cnt L σ J k = .inr (5, [.ref (ad L (k+1)), .ref (ad L (k+3)), .ref (ad L (k+17)), .ref (ad L (k+31))]) := by unfold cnt; rw [h]; rfl
theorem cnt_6 {L : Lay} {σ : St} {J : Nat → Nat → Int32} {k : Nat} (h : kd k = 6) : cnt L σ J k = .inr (6, [.ref (ad L (k+1)), .int ((σ k).getD 0 0), .int ((σ k).getD 1 0), .int ((σ k).getD 2 0)]) := by unfold cnt; rw [h]; rfl
theorem cnt_7 {L : Lay} {σ : St} {J : Nat → Nat → Int32} {k : Nat} (h : kd k = 7) : cnt L σ J k = .inr (7, [.ref (ad L 0), .ref (ad L 225), .ref (ad L 227), .ref (ad L 229), .ref (ad L 232), .ref (ad L 235)]) := by unfold cnt; rw [h]; rfl
theorem cnt_9 {L : Lay} {σ : St} {J : Nat → Nat → Int32} {k : Nat} (h : kd k = 9) : cnt L σ J k = .inl (L.2.1, cp (k-1), .inl (ph σ J (k-1))) := by unfold cnt; rw [h]; rfl
theorem cnt_10 {L : Lay} {σ : St} {J : Nat → Nat → Int32} {k : Nat} (h : kd k = 10) : cnt L σ J k = .inl (L.2.2.1, 4, .inr (.inr (.inr (.inr (fun i => some (ad L (45 * ((σ k).getD i 0).toNatClampNeg))))))) := by unfold cnt; rw [h]; rfl
/-- what a change of one name's ints leaves as it was -/
theorem cnt_up {L : Lay} {σ : St} {J : Nat → Nat → Int32} {k j : Nat} {l : List Int32} (hj : j < 245) (h : j ≠ k) (h2 : kd j = 9 → j - 1 ≠ k) : cnt L (up σ k l) J j = cnt L σ J j := by
  rcases kd_in j hj with q | q | q | q | q | q | q | q | q | q
  · rw [cnt_0 q, cnt_0 q, up_n h]
  · rw [cnt_1 q, cnt_1 q]
  · rw [cnt_2 q, cnt_2 q, up_n h]
  · rw [cnt_3 q, cnt_3 q, up_n h]
  · rw [cnt_4 q, cnt_4 q, up_n h]
  · rw [cnt_5 q, cnt_5 q]
  · rw [cnt_6 q, cnt_6 q, up_n h]
  · rw [cnt_7 q, cnt_7 q]
  · rw [cnt_9 q, cnt_9 q]
    unfold ph
    rw [up_n (h2 q)]
  · rw [cnt_10 q, cnt_10 q, up_n h]
theorem cnt_upJ {L : Lay} {σ : St} {J J' : Nat → Nat → Int32} {k j : Nat} {l : List Int32} (hJ : ∀ i, i ≠ k → J' i = J i) (hj : j < 245) (h : j ≠ k) (h2 : kd j = 9 → j - 1 ≠ k) : cnt L (up σ k l) J' j = cnt L σ J j := by
  rw [cnt_up hj h h2]
  by_cases q : kd j = 9
  · rw [cnt_9 q, cnt_9 q]
    unfold ph
    rw [hJ _ (h2 q)]
  · rcases kd_in j hj with r | r | r | r | r | r | r | r | r | r
    · rw [cnt_0 r, cnt_0 r]
    · rw [cnt_1 r, cnt_1 r]
    · rw [cnt_2 r, cnt_2 r]
    · rw [cnt_3 r, cnt_3 r]
    · rw [cnt_4 r, cnt_4 r]
    · rw [cnt_5 r, cnt_5 r]
    · rw [cnt_6 r, cnt_6 r]
    · rw [cnt_7 r, cnt_7 r]
    · exact absurd r q
    · rw [cnt_10 r, cnt_10 r]

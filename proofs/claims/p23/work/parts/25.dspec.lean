/-! a digest: heaps, buffer, values, how often packed -/
def DV (σ : St) (d : Nat) (A : List Hp) (B V : List Int32) (p : Int32) : Prop := HV σ (d+1) A ∧ σ (d+10) = B ∧ σ (d+12) = V ∧ σ d = [p]
def dset (σ : St) (d : Nat) (A : List Hp) (B V : List Int32) (p : Int32) : St := fun k => if k = d then [p] else if k = d+10 then B else if k = d+12 then V else hset σ (d+1) A k
theorem HV.congr {σ σ' : St} {h : Nat} {A : List Hp} (hv : HV σ h A) (e : ∀ j, j = h+1 ∨ j = h+3 ∨ j = h+5 ∨ j = h+7 → σ' j = σ j) : HV σ' h A :=
  ⟨(e _ (Or.inl rfl)).trans hv.1, (e _ (Or.inr (Or.inl rfl))).trans hv.2.1, (e _ (Or.inr (Or.inr (Or.inl rfl)))).trans hv.2.2.1, (e _ (Or.inr (Or.inr (Or.inr rfl)))).trans hv.2.2.2⟩
theorem HV.up {σ : St} {h k : Nat} {A : List Hp} {l : List Int32} (hv : HV σ h A) (n : k < h ∨ k = h ∨ k = h+2 ∨ k = h+4 ∨ k = h+6 ∨ h+8 ≤ k) : HV (up σ k l) h A := hv.congr (fun j hj => up_n (by omega))
theorem HV_hset_ne {σ : St} {h h2 : Nat} {A X : List Hp} (hv : HV σ h A) (n : h + 9 ≤ h2 ∨ h2 + 9 ≤ h) : HV (hset σ h2 X) h A := hv.congr (fun j hj => hset_n (by omega) (by omega) (by omega) (by omega))
theorem dset_d {σ : St} {d : Nat} {A : List Hp} {B V : List Int32} {p : Int32} : dset σ d A B V p d = [p] := by simp [dset]
theorem dset_b {σ : St} {d : Nat} {A : List Hp} {B V : List Int32} {p : Int32} : dset σ d A B V p (d+10) = B := by simp [dset]
theorem dset_v {σ : St} {d : Nat} {A : List Hp} {B V : List Int32} {p : Int32} : dset σ d A B V p (d+12) = V := by simp [dset]
theorem dset_h {σ : St} {d j : Nat} {A : List Hp} {B V : List Int32} {p : Int32} (h1 : j ≠ d) (h2 : j ≠ d+10) (h3 : j ≠ d+12) : dset σ d A B V p j = hset σ (d+1) A j := by simp [dset, h1, h2, h3]
theorem DV.dset {σ : St} {d : Nat} {A : List Hp} {B V : List Int32} {p : Int32} : DV (dset σ d A B V p) d A B V p :=
  ⟨HV.hset.congr (fun j hj => dset_h (by omega) (by omega) (by omega)), dset_b, dset_v, dset_d⟩
theorem dset_n {σ : St} {d j : Nat} {A : List Hp} {B V : List Int32} {p : Int32} (h : j < d ∨ d + 13 ≤ j) : dset σ d A B V p j = σ j := by
  rw [dset_h (by omega) (by omega) (by omega), hset_n (by omega) (by omega) (by omega) (by omega)]
theorem dset_of {σ σ' : St} {d : Nat} {A : List Hp} {B V : List Int32} {p : Int32} (hv : DV σ' d A B V p) (ho : ∀ k, k ≠ d → k ≠ d+2 → k ≠ d+4 → k ≠ d+6 → k ≠ d+8 → k ≠ d+10 → k ≠ d+12 → σ' k = σ k) : σ' = dset σ d A B V p := by
  have key : σ' = hset σ' (d+1) A := (hset_id hv.1).symm
  funext k
  by_cases h0 : k = d
  · rw [h0, dset_d, hv.2.2.2]
  by_cases h10 : k = d+10
  · rw [h10, dset_b, hv.2.1]
  by_cases h12 : k = d+12
  · rw [h12, dset_v, hv.2.2.1]
  rw [dset_h h0 h10 h12]
  by_cases a : k = d+1+1
  · rw [a, hset_1]; exact hv.1.1
  by_cases b : k = d+1+3
  · rw [b, hset_3]; exact hv.1.2.1
  by_cases c : k = d+1+5
  · rw [c, hset_5]; exact hv.1.2.2.1
  by_cases e : k = d+1+7
  · rw [e, hset_7]; exact hv.1.2.2.2
  rw [hset_n a b c e]
  exact ho k h0 (by omega) (by omega) (by omega) (by omega) h10 h12
theorem dset_o {σ : St} {d k : Nat} {A : List Hp} {B V : List Int32} {p : Int32} (a : k ≠ d) (b : k ≠ d+2) (c : k ≠ d+4) (e : k ≠ d+6) (f : k ≠ d+8) (g : k ≠ d+10) (h : k ≠ d+12) : dset σ d A B V p k = σ k := by
  rw [dset_h a g h, hset_n (by omega) (by omega) (by omega) (by omega)]
theorem dset_id {σ : St} {d : Nat} {A : List Hp} {B V : List Int32} {p : Int32} (hv : DV σ d A B V p) : dset σ d A B V p = σ := (dset_of hv (fun _ _ _ _ _ _ _ _ => rfl)).symm
theorem dset_dset {σ : St} {d : Nat} {A A' : List Hp} {B B' V V' : List Int32} {p p' : Int32} : dset (dset σ d A B V p) d A' B' V' p' = dset σ d A' B' V' p' :=
  dset_of DV.dset (fun k a b c e f g h => by rw [dset_h a g h, hset_n (by omega) (by omega) (by omega) (by omega), dset_h a g h, hset_n (by omega) (by omega) (by omega) (by omega)])
theorem DV.congr {σ σ' : St} {d : Nat} {A : List Hp} {B V : List Int32} {p : Int32} (hv : DV σ d A B V p) (e : ∀ j, d ≤ j → j < d + 13 → σ' j = σ j) : DV σ' d A B V p :=
  ⟨hv.1.congr (fun j hj => e j (by omega) (by omega)), (e _ (by omega) (by omega)).trans hv.2.1, (e _ (by omega) (by omega)).trans hv.2.2.1, (e _ (by omega) (by omega)).trans hv.2.2.2⟩
theorem DV_ne {σ : St} {d d2 : Nat} {A A2 : List Hp} {B V B2 V2 : List Int32} {p p2 : Int32} (hv : DV σ d A B V p) (n : d + 14 ≤ d2 ∨ d2 + 14 ≤ d) : DV (dset σ d2 A2 B2 V2 p2) d A B V p := hv.congr (fun j h1 h2 => dset_n (by omega))
theorem kd00 {h h2 : Nat} (a : kd h = 0) (b : kd h2 = 0) (n : h ≠ h2) : h + 14 ≤ h2 ∨ h2 + 14 ≤ h := by
  have key : ∀ i, i < 245 → kd i = 0 → ∀ d, d < 14 → d ≠ 0 → kd (i + d) ≠ 0 := by decide +kernel
  rcases Nat.lt_or_ge h2 h with q | q
  · rcases Nat.lt_or_ge h (h2 + 14) with r | r
    · have := key h2 (kd_of b) b (h - h2) (by omega) (by omega)
      rw [show h2 + (h - h2) = h by omega] at this
      exact absurd a this
    · exact Or.inr r
  · rcases Nat.lt_or_ge h2 (h + 14) with r | r
    · have := key h (kd_of a) a (h2 - h) (by omega) (by omega)
      rw [show h + (h2 - h) = h2 by omega] at this
      exact absurd b this
    · exact Or.inl r
theorem kd0_le {d : Nat} (a : kd d = 0) : d ≤ 211 := (show ∀ d, d < 245 → kd d = 0 → d ≤ 211 from by decide +kernel) d (kd_of a) a
def dW (A : List Hp) (B : List Int32) : Int32 := wTot A + nI B.length
def dSum (A : List Hp) (B : List Int32) : Int32 := isum (A.map h_s) A.length + isum B B.length
def dLeast (A : List Hp) (B : List Int32) : Int32 := if imin B B.length < imin (A.map h_l) A.length then imin B B.length else imin (A.map h_l) A.length
def dGreatest (A : List Hp) (B : List Int32) : Int32 := if imax (A.map h_g) A.length < imax B B.length then imax B B.length else imax (A.map h_g) A.length
/-- what a digest is with one more value -/
abbrev Dg : Type := List Hp × List Int32 × List Int32 × Int32
def pkD (f : Int32) (D : Dg) : Dg := (packL f (D.1 ++ D.2.1.map hunit), [], D.2.2.1, D.2.2.2 + nI 1)
def rcvD (s0 s1 : Int32) (D : Dg) (v : Int32) : Dg :=
  let E := if s1 ≤ nI D.2.1.length then pkD s0 D else D
  (E.1, E.2.1 ++ [v], ins E.2.2.1 v, E.2.2.2)
abbrev DX (σ : St) (d : Nat) (D : Dg) : Prop := DV σ d D.1 D.2.1 D.2.2.1 D.2.2.2
abbrev dx (σ : St) (d : Nat) (D : Dg) : St := dset σ d D.1 D.2.1 D.2.2.1 D.2.2.2
def toD (f : Int32) (D2 D : Dg) : Dg := ((packL f ((pkD f D).1 ++ (pkD f D2).1)), [], D2.2.2.1.foldl ins D.2.2.1, D.2.2.2 + nI 1 + nI 1)
theorem foldl_ins_len : ∀ (W V : List Int32), (W.foldl ins V).length = V.length + W.length
  | [], V => rfl
  | x :: W, V => by rw [List.foldl_cons, foldl_ins_len W, ins_len, List.length_cons]; omega
theorem mg_len {f tot : Int32} : ∀ (r : List Hp) (a : Int32) (o : Hp), (mg f tot a o r).length ≤ r.length + 1
  | [], _, _ => Nat.le_refl _
  | x :: r, a, o => by
    unfold mg
    split
    · have := mg_len (f := f) (tot := tot) r a (unI o x)
      rw [List.length_cons]; omega
    · have := mg_len (f := f) (tot := tot) r (a + h_w o) x
      rw [List.length_cons, List.length_cons]; omega
theorem ptog_len {f : Int32} : ∀ (A : List Hp), (ptog f A).length ≤ A.length
  | [] => Nat.le_refl _
  | x :: r => mg_len r _ x
theorem packL_len {f : Int32} {A : List Hp} : (packL f A).length ≤ A.length := by
  have := ptog_len (f := f) (order A)
  rw [order, oSort_len] at this
  exact this

/-! heaps: a list of (weight, sum, least, greatest), in four rows -/
abbrev Hp : Type := Int32 × Int32 × Int32 × Int32
abbrev h_w (x : Hp) : Int32 := x.1
abbrev h_s (x : Hp) : Int32 := x.2.1
abbrev h_l (x : Hp) : Int32 := x.2.2.1
abbrev h_g (x : Hp) : Int32 := x.2.2.2
abbrev hd0 : Hp := (0, 0, 0, 0)
def HV (σ : St) (h : Nat) (A : List Hp) : Prop := σ (h+1) = A.map h_w ∧ σ (h+3) = A.map h_s ∧ σ (h+5) = A.map h_l ∧ σ (h+7) = A.map h_g
def hset (σ : St) (h : Nat) (A : List Hp) : St := fun k => if k = h+1 then A.map h_w else if k = h+3 then A.map h_s else if k = h+5 then A.map h_l else if k = h+7 then A.map h_g else σ k
theorem hset_1 {σ : St} {h : Nat} {A : List Hp} : hset σ h A (h+1) = A.map h_w := by simp [hset]
theorem hset_3 {σ : St} {h : Nat} {A : List Hp} : hset σ h A (h+3) = A.map h_s := by simp [hset]
theorem hset_5 {σ : St} {h : Nat} {A : List Hp} : hset σ h A (h+5) = A.map h_l := by simp [hset]
theorem hset_7 {σ : St} {h : Nat} {A : List Hp} : hset σ h A (h+7) = A.map h_g := by simp [hset]
theorem hset_n {σ : St} {h k : Nat} {A : List Hp} (h1 : k ≠ h+1) (h3 : k ≠ h+3) (h5 : k ≠ h+5) (h7 : k ≠ h+7) : hset σ h A k = σ k := by simp [hset, h1, h3, h5, h7]
theorem HV.hset {σ : St} {h : Nat} {A : List Hp} : HV (hset σ h A) h A := ⟨hset_1, hset_3, hset_5, hset_7⟩
theorem hset_of {σ σ' : St} {h : Nat} {A : List Hp} (hv : HV σ' h A) (ho : ∀ k, k ≠ h+1 → k ≠ h+3 → k ≠ h+5 → k ≠ h+7 → σ' k = σ k) : σ' = hset σ h A := by
  funext k
  unfold hset
  split
  · rename_i e; rw [e]; exact hv.1
  · split
    · rename_i e; rw [e]; exact hv.2.1
    · split
      · rename_i e; rw [e]; exact hv.2.2.1
      · split
        · rename_i e; rw [e]; exact hv.2.2.2
        · exact ho k (by assumption) (by assumption) (by assumption) (by assumption)
theorem hset_id {σ : St} {h : Nat} {A : List Hp} (hv : HV σ h A) : hset σ h A = σ := (hset_of hv (fun _ _ _ _ _ => rfl)).symm
theorem hset_hset {σ : St} {h : Nat} {A B : List Hp} : hset (hset σ h A) h B = hset σ h B := by
  refine hset_of HV.hset (fun k h1 h3 h5 h7 => ?_)
  rw [hset_n h1 h3 h5 h7, hset_n h1 h3 h5 h7]
theorem getD_map {α β : Type} (f : α → β) (d : α) (l : List α) (i : Nat) : (l.map f).getD i (f d) = f (l.getD i d) := by
  rw [List.getD_eq_getElem?_getD, List.getD_eq_getElem?_getD, List.getElem?_map]
  cases l[i]? <;> rfl
theorem HV.len {σ : St} {h : Nat} {A : List Hp} (hv : HV σ h A) : (σ (h+1)).length = A.length ∧ (σ (h+3)).length = A.length ∧ (σ (h+5)).length = A.length ∧ (σ (h+7)).length = A.length := by
  obtain ⟨a, b, c, d⟩ := hv
  rw [a, b, c, d]
  simp
theorem HV.w {σ : St} {h : Nat} {A : List Hp} (hv : HV σ h A) (i : Nat) : (σ (h+1)).getD i 0 = h_w (A.getD i hd0) := by rw [hv.1]; exact getD_map h_w hd0 A i
theorem HV.s {σ : St} {h : Nat} {A : List Hp} (hv : HV σ h A) (i : Nat) : (σ (h+3)).getD i 0 = h_s (A.getD i hd0) := by rw [hv.2.1]; exact getD_map h_s hd0 A i
theorem HV.l {σ : St} {h : Nat} {A : List Hp} (hv : HV σ h A) (i : Nat) : (σ (h+5)).getD i 0 = h_l (A.getD i hd0) := by rw [hv.2.2.1]; exact getD_map h_l hd0 A i
theorem HV.g {σ : St} {h : Nat} {A : List Hp} (hv : HV σ h A) (i : Nat) : (σ (h+7)).getD i 0 = h_g (A.getD i hd0) := by rw [hv.2.2.2]; exact getD_map h_g hd0 A i
theorem HV.le {σ : St} {h : Nat} {A : List Hp} (hv : HV σ h A) (hok : wok σ) (hk : kd h = 1) : A.length ≤ 200 := by
  rw [← hv.len.1]
  exact hok.len (kd1_1 hk)
/-- two different heaps lie apart -/
theorem kd11 {h h2 : Nat} (a : kd h = 1) (b : kd h2 = 1) (n : h ≠ h2) : h + 9 ≤ h2 ∨ h2 + 9 ≤ h := by
  have key : ∀ i, i < 245 → kd i = 1 → ∀ d, d < 9 → d ≠ 0 → kd (i + d) ≠ 1 := by decide +kernel
  rcases Nat.lt_or_ge h2 h with q | q
  · rcases Nat.lt_or_ge h (h2 + 9) with r | r
    · have := key h2 (kd_of b) b (h - h2) (by omega) (by omega)
      rw [show h2 + (h - h2) = h by omega] at this
      exact absurd a this
    · exact Or.inr r
  · rcases Nat.lt_or_ge h2 (h + 9) with r | r
    · have := key h (kd_of a) a (h2 - h) (by omega) (by omega)
      rw [show h + (h2 - h) = h2 by omega] at this
      exact absurd b this
    · exact Or.inl r
def hunit (v : Int32) : Hp := (1, v, v, v)
/-- one heap's middle is above another's -/
def gtH (a b : Hp) : Bool := decide ((h_s b).toInt * (h_w a).toInt < (h_s a).toInt * (h_w b).toInt)
def oSort (A : List Hp) : Nat → List Hp
  | 0 => A
  | n + 1 => sift hd0 gtH (n + 1) (oSort A n)
theorem oSort_len {A : List Hp} : ∀ n, (oSort A n).length = A.length
  | 0 => rfl
  | n + 1 => by rw [oSort, sift_len, oSort_len n]
def order (A : List Hp) : List Hp := oSort A (A.length - 1)
def wiB (both ahead total f : Int32) : Bool := decide (both * total * f ≤ (nI 2 * ahead + both) * (nI 2 * total - nI 2 * ahead - both))
def unI (a b : Hp) : Hp := (h_w a + h_w b, h_s a + h_s b, if h_l b < h_l a then h_l b else h_l a, if h_g a < h_g b then h_g b else h_g a)
def mg (f tot : Int32) : Int32 → Hp → List Hp → List Hp
  | _, o, [] => [o]
  | a, o, x :: r => if wiB (h_w o + h_w x) a tot f then mg f tot a (unI o x) r else o :: mg f tot (a + h_w o) x r
def ptog (f : Int32) : List Hp → List Hp
  | [] => []
  | x :: r => mg f (isum ((x :: r).map h_w) (r.length + 1)) 0 x r
def packL (f : Int32) (A : List Hp) : List Hp := ptog f (order A)
def wAt (idx : Int32) : Int32 → List Hp → Int32
  | _, [] => nI 0
  | acc, x :: r => if idx < acc + h_w x then h_g x - h_l x else wAt idx (acc + h_w x) r
/-- the quotient of two longs, rounded down -/
def fdv (x y : Int64) : Int64 := if (x ^^^ y) < 0 ∧ x / y * y ≠ x then x / y - 1 else x / y
def btw (sum weight place nSum nW nPlace t : Int64) : Int32 :=
  if weight * nW * (nPlace - place) ≤ 0 then 0 else (fdv (sum * nW * (nPlace - place) + (nSum * weight - sum * nW) * (t - place)) (weight * nW * (nPlace - place))).toInt32
def qScan (gr tot t : Int32) : Int32 → Int32 → Int32 → Int32 → List Hp → Int32
  | _, place, sum, weight, [] => btw sum.toInt64 weight.toInt64 place.toInt64 gr.toInt64 1 (nI 1000 * tot).toInt64 t.toInt64
  | ahead, place, sum, weight, x :: r =>
    if t ≤ nI 1000 * ahead + nI 500 * h_w x then btw sum.toInt64 weight.toInt64 place.toInt64 (h_s x).toInt64 (h_w x).toInt64 (nI 1000 * ahead + nI 500 * h_w x).toInt64 t.toInt64
    else qScan gr tot t (ahead + h_w x) (nI 1000 * ahead + nI 500 * h_w x) (h_s x) (h_w x) r
def wTot (A : List Hp) : Int32 := isum (A.map h_w) A.length
def qAt (A : List Hp) (q : Int32) : Int32 := qScan (imax (A.map h_g) A.length) (wTot A) (q * wTot A) (nI 0) (nI 0) (imin (A.map h_l) A.length) (nI 1) A
def rkS (A : List Hp) (v : Int32) : Nat → Int32 → Int32
  | 0, q => q
  | j + 1, q => rkS A v j (if q + nI (2 ^ j) ≤ nI 1000 ∧ qAt A (q + nI (2 ^ j)) ≤ v then q + nI (2 ^ j) else q)
theorem HV.tot {σ : St} {h : Nat} {A : List Hp} (hv : HV σ h A) : isum (σ (h+1)) (σ (h+1)).length = wTot A := by rw [hv.1, wTot, List.length_map]

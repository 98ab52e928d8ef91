/-! the world that the constructors leave -/
theorem arrV_cg {cI : ClassId} {N : Nat} {f g : Nat → Value} (h : ∀ j, j < N → f j = g j) : arrV cI N f = arrV cI N g := by
  have e : (fun j : Fin N => f j.val) = (fun j : Fin N => g j.val) := funext (fun j => h j.val j.isLt)
  unfold arrV
  rw [e]
def pos (k : Nat) : Nat := if k = 244 then 0 else if k < 45 then 1 + k else if k = 225 then 46 else if k = 226 then 47 else if k < 225 then k + 3 else k + 1
def sg0 : St := fun k => if k < 225 then (if k % 45 = 1 then [nI 10, nI 5] else if kd k = 0 then [nI 0] else []) else if k = 225 then [nI 0] else if k = 226 then [nI 1, nI 2, nI 3, nI 4] else if k = 229 then [nI 0, nI 0] else if k = 232 then [nI 0, nI 0, nI 0] else []
def rp (k : Nat) : RV := some (.inl (pos k))
def ri (k i : Nat) : RV := some (.inr ((sg0 k).getD i 0))
def cntR (k : Nat) : RE :=
  match kd k with
  | 0 => .inl (0, [rp (k+1), rp (k+10), rp (k+12), ri k 0])
  | 1 => .inl (1, [rp (k+1), rp (k+3), rp (k+5), rp (k+7)])
  | 2 => .inl (2, [rp (k+1), ri k 0])
  | 3 => .inl (3, [rp (k+1), ri k 0, ri k 1])
  | 4 => .inl (4, [rp (k+1), some (.inr (nI (sg0 k).length))])
  | 5 => .inl (5, [rp (k+1), rp (k+3), rp (k+17), rp (k+31)])
  | 6 => .inl (6, [rp (k+1), ri k 0, ri k 1, ri k 2])
  | 7 => .inl (7, [rp 0, rp 225, rp 227, rp 229, rp 232, rp 235])
  | 9 => .inr (.inl (cp (k-1), sg0 (k-1)))
  | _ => .inr (.inr (4, [some (pos 45), some (pos 90), some (pos 135), some (pos 180)]))
def rvb : RV → RV → Bool
  | none, none => true
  | some (.inl a), some (.inl b) => decide (a = b)
  | some (.inr a), some (.inr b) => decide (a = b)
  | _, _ => false
theorem rvb_eq : ∀ a b, rvb a b = true → a = b
  | none, none, _ => rfl
  | some (.inl a), some (.inl b), h => by rw [of_decide_eq_true (show decide (a = b) = true from h)]
  | some (.inr a), some (.inr b), h => by rw [of_decide_eq_true (show decide (a = b) = true from h)]
  | none, some _, h => by cases h
  | some (.inl _), none, h => by cases h
  | some (.inr _), none, h => by cases h
  | some (.inl _), some (.inr _), h => by cases h
  | some (.inr _), some (.inl _), h => by cases h
def lbq {α : Type} (f : α → α → Bool) : List α → List α → Bool
  | [], [] => true
  | a :: r, b :: t => f a b && lbq f r t
  | _, _ => false
theorem lbq_eq {α : Type} {f : α → α → Bool} (hf : ∀ a b, f a b = true → a = b) : ∀ l t, lbq f l t = true → l = t
  | [], [], _ => rfl
  | a :: r, b :: t, h => by
    have h2 : (f a b && lbq f r t) = true := h
    rw [Bool.and_eq_true] at h2
    rw [hf a b h2.1, lbq_eq hf r t h2.2]
  | [], _ :: _, h => by cases h
  | _ :: _, [], h => by cases h
def reb : RE → RE → Bool
  | .inl a, .inl b => decide (a.1 = b.1) && lbq rvb a.2 b.2
  | .inr (.inl a), .inr (.inl b) => decide (a.1 = b.1) && lbq (fun x y => decide (x = y)) a.2 b.2
  | .inr (.inr a), .inr (.inr b) => decide (a.1 = b.1) && lbq (fun x y => decide (x = y)) a.2 b.2
  | _, _ => false
theorem reb_eq : ∀ a b, reb a b = true → a = b
  | .inl a, .inl b, h => by
    have h2 : (decide (a.1 = b.1) && lbq rvb a.2 b.2) = true := h
    rw [Bool.and_eq_true] at h2
    obtain ⟨a1, a2⟩ := a
    obtain ⟨b1, b2⟩ := b
    have e1 : a1 = b1 := of_decide_eq_true h2.1
    have e2 : a2 = b2 := lbq_eq rvb_eq _ _ h2.2
    rw [e1, e2]
  | .inr (.inl a), .inr (.inl b), h => by
    have h2 : (decide (a.1 = b.1) && lbq (fun x y => decide (x = y)) a.2 b.2) = true := h
    rw [Bool.and_eq_true] at h2
    obtain ⟨a1, a2⟩ := a
    obtain ⟨b1, b2⟩ := b
    have e1 : a1 = b1 := of_decide_eq_true h2.1
    have e2 : a2 = b2 := lbq_eq (fun x y z => of_decide_eq_true z) _ _ h2.2
    rw [e1, e2]
  | .inr (.inr a), .inr (.inr b), h => by
    have h2 : (decide (a.1 = b.1) && lbq (fun x y => decide (x = y)) a.2 b.2) = true := h
    rw [Bool.and_eq_true] at h2
    obtain ⟨a1, a2⟩ := a
    obtain ⟨b1, b2⟩ := b
    have e1 : a1 = b1 := of_decide_eq_true h2.1
    have e2 : a2 = b2 := lbq_eq (fun x y z => of_decide_eq_true z) _ _ h2.2
    rw [e1, e2]
  | .inl _, .inr _, h => by cases h
  | .inr (.inl _), .inl _, h => by cases h
  | .inr (.inr _), .inl _, h => by cases h
  | .inr (.inl _), .inr (.inr _), h => by cases h
  | .inr (.inr _), .inr (.inl _), h => by cases h
def mok (k : Nat) : Bool := match mainR[pos k]? with
  | some r => reb r (cntR k)
  | none => false
theorem mok_all : ∀ k, k < 245 → mok k = true := by decide +kernel
theorem mainR_at (k : Nat) (hk : k < 245) : mainR[pos k]? = some (cntR k) := by
  have h := mok_all k hk
  unfold mok at h
  split at h
  · rename_i r e
    rw [e, reb_eq r _ h]
  · cases h
def adr (h : Nat) : Nat → Nat := fun k => h + pos k
def Lw (L : Lay) (h : Nat) : Lay := (L.1, L.2.1, L.2.2.1, adr h)
def jn0 : Nat → Nat → Int32 := fun _ _ => 0
theorem ph0 (k : Nat) : ph sg0 jn0 k = fun i => (sg0 k).getD i 0 := by
  funext i
  unfold ph
  by_cases q : i < (sg0 k).length
  · rw [if_pos q]
  · rw [if_neg q, List.getD_eq_getElem?_getD, List.getElem?_eq_none_iff.mpr (by omega)]
    rfl
theorem iv_rp {h k : Nat} : iv h (rp k) = .ref (adr h k) := rfl
theorem ie_cntR {L : Lay} {h k : Nat} (hk : k < 245) (H : Heap) (hB : va_at L.1 vwCl (h + pos k, ie L h (cntR k)) H) : va_at L.1 vwCl (adr h k, cnt (Lw L h) sg0 jn0 k) H := by
  rcases kd_in k hk with q | q | q | q | q | q | q | q | q | q
  · rw [cnt_0 q]; unfold cntR at hB; rw [q] at hB; exact hB
  · rw [cnt_1 q]; unfold cntR at hB; rw [q] at hB; exact hB
  · rw [cnt_2 q]; unfold cntR at hB; rw [q] at hB; exact hB
  · rw [cnt_3 q]; unfold cntR at hB; rw [q] at hB; exact hB
  · rw [cnt_4 q]; unfold cntR at hB; rw [q] at hB; exact hB
  · rw [cnt_5 q]; unfold cntR at hB; rw [q] at hB; exact hB
  · rw [cnt_6 q]; unfold cntR at hB; rw [q] at hB; exact hB
  · rw [cnt_7 q]; unfold cntR at hB; rw [q] at hB; exact hB
  · rw [cnt_9 q, ph0]; unfold cntR at hB; rw [q] at hB; exact hB
  · have e := kd_10 k hk q
    subst e
    rw [cnt_10 q]
    unfold cntR at hB
    rw [q] at hB
    have hB2 : H[h + pos 226]? = some (arrV L.2.2.1 4 (fun i => va_rf ((([some (pos 45), some (pos 90), some (pos 135), some (pos 180)] : List (Option Nat)).getD i none).map (fun k => h + k)))) := hB
    show H[h + pos 226]? = some (arrV L.2.2.1 4 (fun i => va_rf (some (h + pos (45 * ((sg0 226).getD i 0).toNatClampNeg)))))
    rw [hB2]
    congr 1
theorem pos_inj : ∀ i, i < 245 → ∀ j, j < 245 → pos i = pos j → i = j := by
  intro i hi j hj h
  unfold pos at h
  repeat' split at h
  all_goals omega
theorem Lw_inj {L : Lay} {h : Nat} : Inj (Lw L h) := fun i j hi hj e => pos_inj i hi j hj (by have e2 : h + pos i = h + pos j := e; omega)
theorem sg0_ok : wok sg0 := by
  have h : ∀ k, k < 245 → kd k = 4 → (sg0 k).length ≤ cp k := by decide +kernel
  exact fun k hk => h k (kd_of hk) hk
theorem Pw_first {L : Lay} {h : Nat} {H : Heap} (hB : ∀ i r, mainR[i]? = some r → va_at L.1 vwCl (h + i, ie L h r) H) : Pw (Lw L h) sg0 H := by
  refine ⟨sg0_ok, jn0, fun k q hk => ?_⟩
  obtain ⟨h1, rfl⟩ := wld_of hk
  exact ie_cntR h1 H (hB (pos k) _ (mainR_at k h1))
def Xst : SS := (nI 10, nI 5, fun _ => ([], [], [], nI 0))
theorem CR_first : CR sg0 Xst [] [] := by
  have hD : ∀ i, i < 3 → DX sg0 (3 + 14 * i) ([], [], [], nI 0) := by
    intro i hi
    rcases (show i = 0 ∨ i = 1 ∨ i = 2 by omega) with rfl | rfl | rfl <;> exact ⟨⟨by decide +kernel, by decide +kernel, by decide +kernel, by decide +kernel⟩, by decide +kernel, by decide +kernel, by decide +kernel⟩
  refine ⟨⟨by decide +kernel, fun i hi => ?_⟩, ⟨fun i => i + 1, ⟨fun i hi => (show 1 ≤ i + 1 ∧ i + 1 ≤ 4 by omega), fun i j hi hj e => (by have e2 : i + 1 = j + 1 := e; omega)⟩, Nat.zero_le _, by decide +kernel, by decide +kernel, fun j X h => by cases h⟩, by decide +kernel⟩
  rw [Nat.zero_add]
  exact hD i hi
theorem FX_first : FX Xst := ⟨⟨fun i _ => GD_nil, (by decide +kernel : nI 5 ≤ 20)⟩, fun i _ => ⟨RD_nil, DS_nil⟩⟩
theorem clX_first : clX Xst = Xst := rfl

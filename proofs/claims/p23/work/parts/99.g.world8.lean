def ad8 (h : Nat) : Nat → Nat := fun k => h + (if k = 0 then 0 else k)
def Lw8 (L : Lay) (h : Nat) : Lay := (L.1, L.2.1, L.2.2.1, fun k => h + k)
def me0 : Me := fun k i => if k = 1 ∧ i = 0 then nI 10 else if k = 1 ∧ i = 1 then nI 5 else 0
def r8k : Nat → RE
  | 0 => .inl (8, [some (.inl 1), some (.inl 2), some (.inr 0), some (.inl 3), some (.inr 0), some (.inl 4), some (.inl 5), some (.inl 6), some (.inl 7), some (.inr 0), some (.inl 8), some (.inr 0), some (.inr 0), some (.inr 0), some (.inl 9)])
  | 1 => .inr (.inl (3074, [nI 10, nI 5]))
  | n + 2 => .inr (.inl (ln8 (n + 2), []))
theorem modR_at : ∀ k, k < 10 → modR[k]? = some (r8k k) := by
  intro k hk
  rcases (show k = 0 ∨ k = 1 ∨ k = 2 ∨ k = 3 ∨ k = 4 ∨ k = 5 ∨ k = 6 ∨ k = 7 ∨ k = 8 ∨ k = 9 by omega) with rfl | rfl | rfl | rfl | rfl | rfl | rfl | rfl | rfl | rfl <;> rfl
theorem me0_1 : me0 1 = fun i => ([nI 10, nI 5] : List Int32).getD i 0 := by
  funext i
  match i with
  | 0 => rfl
  | 1 => rfl
  | i + 2 =>
    have e : me0 1 (i + 2) = 0 := by
      unfold me0
      rw [if_neg (by omega), if_neg (by omega)]
    rw [e]
    rfl
theorem me0_n {k : Nat} (h : k ≠ 1) : me0 k = fun i => ([] : List Int32).getD i 0 := by
  funext i
  unfold me0
  rw [if_neg (fun z => h z.1), if_neg (fun z => h z.1)]
  rfl
theorem Lw8_inj {L : Lay} {h : Nat} : Inj8 (Lw8 L h) := fun i j hi hj e => by
  have e2 : h + i = h + j := e
  omega
theorem MC_first : MC me0 Xst [] [] := by
  have h1 : ∀ i, 2 ≤ i → me0 1 i = 0 := fun i hi => by
    unfold me0
    rw [if_neg (by omega), if_neg (by omega)]
  have hD : ∀ d, MDg (me0 1) d ([], [], [], nI 0) := fun d => ⟨h1 _ (by omega), h1 _ (by omega), h1 _ (by omega), h1 _ (by omega), fun j hj => absurd hj (Nat.not_lt_zero _), fun j hj => absurd hj (Nat.not_lt_zero _), fun j hj => absurd hj (Nat.not_lt_zero _)⟩
  exact ⟨⟨rfl, rfl, fun i _ => hD i⟩, ⟨rfl, Nat.zero_le _, fun j X hj => by cases hj⟩, rfl, Nat.zero_le _, fun i hi => absurd hi (Nat.not_lt_zero _)⟩

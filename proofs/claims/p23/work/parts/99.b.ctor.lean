/-! constructors: a block of cells that lie one behind another, written down without their place -/
abbrev RV : Type := Option (Nat ⊕ Int32)
abbrev RE : Type := (Nat × List RV) ⊕ ((Nat × List Int32) ⊕ (Nat × List (Option Nat)))
def iv (h : Nat) : RV → Value
  | none => .null
  | some (.inl i) => .ref (h + i)
  | some (.inr x) => .int x
def ie (L : Lay) (h : Nat) : RE → va_E
  | .inl o => .inr (o.1, o.2.map (iv h))
  | .inr (.inl a) => .inl (L.2.1, a.1, .inl (fun i => a.2.getD i 0))
  | .inr (.inr a) => .inl (L.2.2.1, a.1, .inr (.inr (.inr (.inr (fun i => (a.2.getD i none).map (fun k => h + k))))))
def shv (d : Nat) : RV → RV
  | none => none
  | some (.inl i) => some (.inl (d + i))
  | some (.inr x) => some (.inr x)
def sh (d : Nat) : RE → RE
  | .inl o => .inl (o.1, o.2.map (shv d))
  | .inr (.inl a) => .inr (.inl a)
  | .inr (.inr a) => .inr (.inr (a.1, a.2.map (fun q => q.map (fun k => d + k))))
theorem iv_sh {h d : Nat} : ∀ v : RV, iv h (shv d v) = iv (h + d) v
  | none => rfl
  | some (.inl i) => by show Value.ref (h + (d + i)) = .ref (h + d + i); rw [Nat.add_assoc]
  | some (.inr x) => rfl
theorem ie_sh {L : Lay} {h d : Nat} : ∀ r : RE, ie L h (sh d r) = ie L (h + d) r
  | .inl o => by
    show (Sum.inr (o.1, (o.2.map (shv d)).map (iv h)) : va_E) = .inr (o.1, o.2.map (iv (h + d)))
    rw [List.map_map]
    congr 2
    exact List.map_congr_left (fun v _ => iv_sh v)
  | .inr (.inl a) => rfl
  | .inr (.inr a) => by
    have e : (fun i => ((a.2.map (fun q => q.map (fun k => d + k))).getD i none).map (fun k => h + k)) = (fun i => (a.2.getD i none).map (fun k => h + d + k)) := by
      funext i
      rw [List.getD_eq_getElem?_getD, List.getElem?_map, List.getD_eq_getElem?_getD]
      cases a.2[i]? with
      | none => rfl
      | some q =>
        cases q with
        | none => rfl
        | some k => show some (h + (d + k)) = some (h + d + k); rw [Nat.add_assoc]
    show (Sum.inl (L.2.2.1, a.1, .inr (.inr (.inr (.inr (fun i => ((a.2.map (fun q => q.map (fun k => d + k))).getD i none).map (fun k => h + k)))))) : va_E) = _
    rw [e]
    rfl
def Bl (L : Lay) (h : Nat) (rl : List RE) (H : Heap) : Prop := H.size = h + rl.length ∧ ∀ i r, rl[i]? = some r → va_at L.1 vwCl (h + i, ie L h r) H
theorem va_at_k {D : va_G} {cl : List vw_C} {q : Nat × va_E} {H H1 : Heap} (h : va_at D cl q H) (e : H1[q.1]? = H[q.1]?) : va_at D cl q H1 := by
  obtain ⟨a, x | o⟩ := q
  · exact (show H1[a]? = H[a]? from e).trans h
  · obtain ⟨r, h1, h2⟩ := h
    exact ⟨r, h1, h2.kept e⟩
theorem Bl.set {L : Lay} {h i : Nat} {rl : List RE} {r : RE} {H H1 : Heap} (hB : Bl L h rl H) (hz : H1.size = H.size) (ho : ∀ q, q ≠ h + i → H1[q]? = H[q]?) (hr : va_at L.1 vwCl (h + i, ie L h r) H1) : Bl L h (rl.set i r) H1 := by
  refine ⟨by rw [hz, hB.1, List.length_set], fun j x hj => ?_⟩
  by_cases q : i = j
  · subst q
    by_cases hi : i < rl.length
    · rw [List.getElem?_set_self hi] at hj
      cases hj
      exact hr
    · rw [List.getElem?_eq_none_iff.mpr (by rw [List.length_set]; omega)] at hj
      cases hj
  · rw [List.getElem?_set_ne q] at hj
    exact va_at_k (hB.2 j x hj) (ho _ (by show h + j ≠ h + i; omega))
theorem Bl.push {L : Lay} {h : Nat} {rl : List RE} {r : RE} {H H1 : Heap} (hB : Bl L h rl H) (hz : H1.size = H.size + 1) (ho : ∀ q, q < H.size → H1[q]? = H[q]?) (hr : va_at L.1 vwCl (H.size, ie L h r) H1) : Bl L h (rl ++ [r]) H1 := by
  refine ⟨by rw [hz, hB.1, List.length_append, List.length_singleton, Nat.add_assoc], fun j x hj => ?_⟩
  rcases Nat.lt_or_ge j rl.length with q | q
  · rw [List.getElem?_append_left q] at hj
    exact va_at_k (hB.2 j x hj) (ho _ (by show h + j < _; rw [hB.1]; omega))
  · rw [List.getElem?_append_right q] at hj
    have hz2 : j - rl.length < 1 := (List.getElem?_eq_some_iff.mp hj).1
    rw [show j - rl.length = 0 by omega] at hj
    cases hj
    rw [show h + j = H.size by rw [hB.1]; omega]
    exact hr
theorem Bl.tail {L : Lay} {h d : Nat} {rl : List RE} {r : RE} {H : Heap} (hB : Bl L h (rl ++ [sh d r]) H) (hd : rl.length = d) : Bl L (h + d) [r] H := by
  refine ⟨by rw [hB.1, List.length_append, List.length_singleton, hd]; rfl, fun i x hi => ?_⟩
  have hz : i < 1 := (List.getElem?_eq_some_iff.mp hi).1
  obtain rfl : i = 0 := by omega
  cases hi
  rw [← ie_sh]
  exact hB.2 d (sh d r) (by rw [List.getElem?_append_right (by omega), show d - rl.length = 0 by omega]; rfl)
theorem Bl.join {L : Lay} {h d : Nat} {rl rl2 : List RE} {x : RE} {H H1 : Heap} (hB : Bl L h (rl ++ [x]) H) (hd : rl.length = d) (ho : ∀ q, q < h + d → H1[q]? = H[q]?) (h2 : Bl L (h + d) rl2 H1) : Bl L h (rl ++ rl2.map (sh d)) H1 := by
  refine ⟨by rw [h2.1, List.length_append, List.length_map, hd, Nat.add_assoc], fun j y hj => ?_⟩
  rcases Nat.lt_or_ge j rl.length with q | q
  · rw [List.getElem?_append_left q] at hj
    exact va_at_k (hB.2 j y (by rw [List.getElem?_append_left q]; exact hj)) (ho _ (by show h + j < _; omega))
  · rw [List.getElem?_append_right q, List.getElem?_map] at hj
    obtain ⟨k, rfl⟩ : ∃ k, j = d + k := ⟨j - d, by omega⟩
    rw [show d + k - rl.length = k by omega] at hj
    cases hk : rl2[k]? with
    | none => rw [hk] at hj; cases hj
    | some z =>
      rw [hk] at hj
      cases hj
      rw [ie_sh, ← Nat.add_assoc]
      exact h2.2 k z hk
def KC (L : Lay) (U : State) : Prop := Kn L U ∧ va_Nw (.methodLinkNest RX5 22 yX0_init RX7) U ∧ va_Nw (.methodLinkNest RX0 11 yX1_init RX7) U ∧ va_Nw (.methodLinkNest RX7 34 yX3_init RX7) U ∧ va_Nw (.methodLinkNest RX7 41 yX6_init RX7) U ∧ va_Nw (.methodLinkNest RX7 48 yX1_init RX7) U ∧ va_AO RX5 U
theorem KC.warm {L : Lay} {s U : State} (hW : s.WarmedH U.vm) (h : KC L s) : KC L U := by
  obtain ⟨a, b, d, f, g, i, j⟩ := h
  exact ⟨a.warm hW, va_Nw.warmM hW b, va_Nw.warmM hW d, va_Nw.warmM hW f, va_Nw.warmM hW g, va_Nw.warmM hW i, va_AO.moved hW.alike j⟩
theorem KC.same {L : Lay} {s U : State} (hv : s.vm = U.vm) (h : KC L s) : KC L U := by
  obtain ⟨a, b, d, f, g, i, j⟩ := h
  exact ⟨a.same hv, va_Nw.same rfl hv b, va_Nw.same rfl hv d, va_Nw.same rfl hv f, va_Nw.same rfl hv g, va_Nw.same rfl hv i, va_AO.moved (by rw [hv]; exact Vm.Alike.refl U.vm) j⟩
def Mc (l : Launch) (L : Lay) (y : MethodName) (ws : List Cond) (rm : Room) (as : List Value) (h0 : Nat) (rl rl' : List RE) (mc ms : Nat) : Prop :=
  Met l y ws rm (va_Pc as (fun U => Bl L h0 rl U.heap ∧ KC L U)) (va_Qv (fun _ : Unit => True) (fun _ t => Bl L h0 rl' t.heap ∧ KC L t) (fun q => h0 ≤ q)) mc ms (fun q => h0 ≤ q)
theorem blind_c (as : List Value) (L : Lay) (h0 : Nat) (rl : List RE) : FrameBlind (va_Pc as (fun U => Bl L h0 rl U.heap ∧ KC L U)) := fun _ U _ _ q => ⟨q.1, q.2.1, KC.same (s := U) rfl q.2.2⟩
def CS (L : Lay) (h0 : Nat) (H0 H : Heap) (locs : List Loc) (rl : List RE) : Prop := Bl L h0 rl H ∧ va_S (fun q => h0 ≤ q) H0 H locs

/-! the law: two worlds side by side -/
def LV (Lc Lm : Lay) (U : State) : Prop := Inj Lc ∧ Inj8 Lm ∧ Kn Lc U ∧ Kn8 Lm U ∧ (∀ i j, i < 245 → j < 10 → ad Lc i ≠ ad Lm j) ∧ (∀ i, i < 245 → U.heap.size ≤ ad Lc i) ∧ (∀ j, j < 10 → U.heap.size ≤ ad Lm j)
def PC (Lc Lm : Lay) (U : State) (H : Heap) (locs : List Loc) (σ : St) (τ : Me) : Prop := Pw Lc σ H ∧ Pw8 Lm τ H ∧ va_S (fun q => U.heap.size ≤ q) U.heap H locs
theorem Pw8_kept {L : Lay} {τ : Me} {H H1 : Heap} {A : Nat → Prop} (h : Pw8 L τ H) (ha : ∀ j, j < 10 → ¬ A (ad L j)) (hk : ∀ q, q < H.size → ¬ A q → H1[q]? = H[q]?) : Pw8 L τ H1 := va_P.kept h (fun k q hq => by
  obtain ⟨h1, rfl⟩ := wld8_of hq
  exact hk _ (h k _ hq).lt (ha k h1))
theorem Pw_kept {L : Lay} {σ : St} {H H1 : Heap} {A : Nat → Prop} (h : Pw L σ H) (ha : ∀ j, j < 245 → ¬ A (ad L j)) (hk : ∀ q, q < H.size → ¬ A q → H1[q]? = H[q]?) : Pw L σ H1 := by
  obtain ⟨hw, J, hP⟩ := h
  refine ⟨hw, J, va_P.kept hP (fun k q hq => ?_)⟩
  obtain ⟨h1, rfl⟩ := wld_of hq
  exact hk _ (hP k _ hq).lt (ha k h1)
section LAWROWS
variable {p : Program} {l : Launch} {e : Env} {R : Room} {U : State} {m : MethodId} {args : Array Value} {below : List Frame} {meth : Method} {c : Code} {H : Heap} {locs : List Loc} {cells slots : Nat} {Q : State → Prop}
variable {cc : ByteArray} {pc nL index : Nat} {own : String} {ls : Array Slot} {rest st0 : List Value} {Lc Lm : Lay} {σ : St} {τ : Me}
theorem lw_C {post : Option Value → St → Prop} (S : CallFix p m c cc nL U args qA own) (V : LV Lc Lm U) (h : PC Lc Lm U H locs σ τ) {y : MethodName} {maxL n : Nat} {bytes : ByteArray} {ret : Option FieldType} {rm : Room} {As : List Value} (hM : Mg l Lc y (Cond.code y bytes maxL ret :: qA) rm (.ref (ad Lc 244) :: As) σ post)
    (w1 : Cond.methodLink own index y ∈ qA) (w2 : Cond.instanceMethod y ∈ qA) (w3 : Cond.selects RX7 y y ∈ qA) (w4 : Cond.initialized RX7 ∈ qA) (w5 : Cond.code y bytes maxL ret ∈ qA)
    (hd : y.cls = RX7 ∧ y.cls ≠ "java/lang/invoke/MethodHandle" ∧ y.cls ≠ "java/lang/invoke/VarHandle" ∧ (parseMethodDescriptor y.desc).map (fun d => d.parameters.length) = some n) (hn : As.length = n) (hR : rmFit rm R maxL cells slots) (hstk : st0 = As.reverse ++ .ref (ad Lc 244) :: rest) (hrest : (rest.map fun v => v.category).sum ≤ 8) (hsz : ls.size = nL) (hdg : decode cc pc = .ok (.invokevirtual index, 3))
    (kk : ∀ (r : Option Value) (u : St) (H1 : Heap) (locs1 : List Loc), post r u → PC Lc Lm U H1 locs1 u τ → W p l e R U m args below meth c H1 locs1 cells slots Q (F0 m (pc + 3) ls (r.toList ++ rest))) : W p l e R U m args below meth c H locs cells slots Q (F0 m pc ls st0) := by
  obtain ⟨hP, hP8, hS⟩ := h
  obtain ⟨hI, hI8, hK, hK8, hap, hlo, hlo8⟩ := V
  obtain ⟨-, J, hPJ⟩ := id hP
  refine va_callg (va_runV (As := As) (rest := rest) S (hM hI) (cwV n S.2.2.2.2 (good_V w1 w2 w3 w4 w5) rfl hR.1.1 hR.1.2 hd hR.2.1) ⟨blind_bs _ Lc σ, va_recv hK.1 hPJ (ci := 7) rfl (by rw [wld_at (show 244 < 245 by decide)]; rfl), fun U2 hU hW => ⟨rfl, by rw [hU]; exact hP, hK.warm hW⟩⟩ rfl hn hsz hstk (lv_room hrest) hdg hR.2.2) hS (fun q _ z => ?_) (fun q z => ?_) (fun r u t H1 locs1 ht _ hp hB hz hk hS1 => kk r u H1 locs1 hp ⟨by rw [← ht]; exact hB.1, Pw8_kept hP8 (fun j hj z => ?_) hk, hS1⟩)
  · obtain ⟨k, hk, rfl⟩ := z; exact hlo k hk
  · obtain ⟨k, hk, rfl⟩ := z; exact hlo k hk
  · obtain ⟨k, hk, e2⟩ := z; exact hap k j hk hj e2.symm
theorem lw_M {post : Option Value → Me → Prop} (S : CallFix p m c cc nL U args qA own) (V : LV Lc Lm U) (h : PC Lc Lm U H locs σ τ) {y : MethodName} {maxL n : Nat} {bytes : ByteArray} {ret : Option FieldType} {rm : Room} {As : List Value} (hM : Mg8 l Lm y (Cond.code y bytes maxL ret :: qA) rm (.ref (ad Lm 0) :: As) τ post)
    (w1 : Cond.methodLink own index y ∈ qA) (w2 : Cond.instanceMethod y ∈ qA) (w3 : Cond.selects RX8 y y ∈ qA) (w4 : Cond.initialized RX8 ∈ qA) (w5 : Cond.code y bytes maxL ret ∈ qA)
    (hd : y.cls = RX8 ∧ y.cls ≠ "java/lang/invoke/MethodHandle" ∧ y.cls ≠ "java/lang/invoke/VarHandle" ∧ (parseMethodDescriptor y.desc).map (fun d => d.parameters.length) = some n) (hn : As.length = n) (hR : rmFit rm R maxL cells slots) (hstk : st0 = As.reverse ++ .ref (ad Lm 0) :: rest) (hrest : (rest.map fun v => v.category).sum ≤ 8) (hsz : ls.size = nL) (hdg : decode cc pc = .ok (.invokevirtual index, 3))
    (kk : ∀ (r : Option Value) (u : Me) (H1 : Heap) (locs1 : List Loc), post r u → PC Lc Lm U H1 locs1 σ u → W p l e R U m args below meth c H1 locs1 cells slots Q (F0 m (pc + 3) ls (r.toList ++ rest))) : W p l e R U m args below meth c H locs cells slots Q (F0 m pc ls st0) := by
  obtain ⟨hP, hP8, hS⟩ := h
  obtain ⟨hI, hI8, hK, hK8, hap, hlo, hlo8⟩ := V
  refine va_callg (va_runV (As := As) (rest := rest) S (hM hI8) (cwV n S.2.2.2.2 (good_V w1 w2 w3 w4 w5) rfl hR.1.1 hR.1.2 hd hR.2.1) ⟨blind_bs8 _ Lm τ, va_recv hK8 hP8 (ci := 8) rfl (by rw [wld8_at (show 0 < 10 by decide)]; rfl), fun U2 hU hW => ⟨rfl, by rw [hU]; exact hP8, hK8.warm hW⟩⟩ rfl hn hsz hstk (lv_room hrest) hdg hR.2.2) hS (fun q _ z => ?_) (fun q z => ?_) (fun r u t H1 locs1 ht _ hp hB hz hk hS1 => kk r u H1 locs1 hp ⟨Pw_kept hP (fun j hj z => ?_) hk, by rw [← ht]; exact hB.1, hS1⟩)
  · obtain ⟨k, hk, rfl⟩ := z; exact hlo8 k hk
  · obtain ⟨k, hk, rfl⟩ := z; exact hlo8 k hk
  · obtain ⟨k, hk, e2⟩ := z; exact hap j k hj hk e2
end LAWROWS
theorem sh_0 : ∀ r : RE, sh 0 r = r
  | .inl o => by
    have e : o.2.map (shv 0) = o.2 := by
      have e2 : ∀ v : RV, shv 0 v = v := fun v => by
        match v with
        | none => rfl
        | some (.inl i) => show (some (Sum.inl (0 + i)) : RV) = _; rw [Nat.zero_add]
        | some (.inr x) => rfl
      rw [show shv 0 = id from funext e2, List.map_id]
    show (Sum.inl (o.1, o.2.map (shv 0)) : RE) = _
    rw [e]
  | .inr (.inl a) => rfl
  | .inr (.inr a) => by
    have e2 : (fun q : Option Nat => q.map (fun k => 0 + k)) = id := funext (fun q => by
      cases q with
      | none => rfl
      | some k => show some (0 + k) = some k; rw [Nat.zero_add])
    show (Sum.inr (Sum.inr (a.1, a.2.map (fun q => q.map (fun k => 0 + k)))) : RE) = _
    rw [e2, List.map_id]
theorem map_sh0 (rl : List RE) : rl.map (sh 0) = rl := by
  rw [show sh 0 = id from funext sh_0, List.map_id]

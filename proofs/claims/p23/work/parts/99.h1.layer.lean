/-! The law's world: the class's, and ten arrays of ints; what changes in these is an int at a place of an array. -/
def ln9 (k : Nat) : Nat := [2, 64, 64, 20, 20, 40, 40, 4, 4, 64].getD k 0
def cnt9 (L : Lay) (μ : Me) (k : Nat) : va_E := .inl (L.2.1, ln9 k, .inl (μ k))
def wld9 (L : Lay) (μ : Me) : va_W := (List.range 10).map (fun k => (ad L k, cnt9 L μ k))
theorem wld9_at {L : Lay} {μ : Me} {k : Nat} (hk : k < 10) : (wld9 L μ)[k]? = some (ad L k, cnt9 L μ k) := by
  rw [wld9, List.getElem?_map, List.getElem?_range hk]
  rfl
theorem wld9_no {L : Lay} {μ : Me} {k : Nat} (hk : ¬ k < 10) : (wld9 L μ)[k]? = none := by
  rw [List.getElem?_eq_none_iff]
  simp [wld9]
  omega
theorem wld9_set {L : Lay} {μ μ' : Me} {k : Nat} {e : va_E} (hk : k < 10) (h1 : cnt9 L μ' k = e) (h2 : ∀ j, j < 10 → j ≠ k → cnt9 L μ' j = cnt9 L μ j) : (wld9 L μ).set k (ad L k, e) = wld9 L μ' := by
  apply List.ext_getElem?
  intro j
  by_cases hj : j < 10
  · rw [wld9_at hj]
    by_cases hjk : j = k
    · subst hjk
      rw [List.getElem?_set_self (by simp [wld9]; omega), h1]
    · rw [List.getElem?_set_ne (Ne.symm hjk), wld9_at hj, h2 j hj hjk]
  · rw [wld9_no hj, List.getElem?_eq_none_iff]
    simp [wld9]
    omega
def Inj9 (L : Lay) : Prop := ∀ i j, i < 10 → j < 10 → ad L i = ad L j → i = j
def Aw9 (L : Lay) : Nat → Prop := fun q => ∃ k, k < 10 ∧ q = ad L k
theorem wld9_of {L : Lay} {μ : Me} {k : Nat} {q : Nat × va_E} (h : (wld9 L μ)[k]? = some q) : k < 10 ∧ q = (ad L k, cnt9 L μ k) := by
  by_cases hk : k < 10
  · rw [wld9_at hk] at h
    exact ⟨hk, (Option.some.inj h).symm⟩
  · rw [wld9_no hk] at h
    cases h
theorem Inj9.D {L : Lay} (h : Inj9 L) (μ : Me) : va_D (Aw9 L) (wld9 L μ) := by
  refine ⟨fun i j p q hi hj e => ?_, fun k q hk => ?_⟩
  · obtain ⟨h1, rfl⟩ := wld9_of hi
    obtain ⟨h2, rfl⟩ := wld9_of hj
    exact h i j h1 h2 e
  · obtain ⟨h1, rfl⟩ := wld9_of hk
    exact ⟨k, h1, rfl⟩
/-- the class's object, in the state X with the history hh and no text -/
def PX (Lc : Lay) (X : SS) (hh : List SS) (H : Heap) : Prop := ∃ σ, Pw Lc σ H ∧ CR σ (clX X) (hh.map clX) []
def Pw9 (L : Lay) (μ : Me) (H : Heap) : Prop := va_P L.1 vwCl (wld9 L μ) H
def Kn9 (Lc L : Lay) (U : State) : Prop := Kn Lc U ∧ va_K L.1 vwCl (tyL L) U
def A9 (Lc L : Lay) : Nat → Prop := fun q => Aw Lc q ∨ Aw9 L q
def VA (A : Nat → Prop) (Lc L : Lay) : Prop := Inj Lc ∧ Inj9 L ∧ (∀ i j, i < 245 → j < 10 → ad Lc i ≠ ad L j) ∧ ∀ q, A9 Lc L q → A q
def HdA (A : Nat → Prop) (Lc L : Lay) (X : SS) (hh : List SS) (H0 H : Heap) (μ : Me) (locs : List Loc) : Prop := (PX Lc X hh H ∧ Pw9 L μ H) ∧ va_S A H0 H locs
def bs9 (Lc L : Lay) (X : SS) (hh : List SS) (μ : Me) (U : State) : Prop := (PX Lc X hh U.heap ∧ Pw9 L μ U.heap) ∧ Kn9 Lc L U
abbrev Hd9 (Lc L : Lay) (X : SS) (hh : List SS) (H0 H : Heap) (μ : Me) (locs : List Loc) : Prop := HdA (A9 Lc L) Lc L X hh H0 H μ locs
theorem VA.own {A : Nat → Prop} {Lc L : Lay} (h : VA A Lc L) : VA (A9 Lc L) Lc L := ⟨h.1, h.2.1, h.2.2.1, fun _ z => z⟩
theorem VA.c {A : Nat → Prop} {Lc L : Lay} (h : VA A Lc L) : ∀ q, Aw Lc q → A q := fun q z => h.2.2.2 q (Or.inl z)
def Mg9 (l : Launch) (Lc L : Lay) (X : SS) (hh : List SS) (y : MethodName) (ws : List Cond) (rm : Room) (as : List Value) (μ : Me) (post : Option Value → Me → Prop) : Prop :=
  VA (A9 Lc L) Lc L → Met l y ws rm (va_Pc as (bs9 Lc L X hh μ)) (Qg post (bs9 Lc L X hh) (A9 Lc L)) 0 0 (A9 Lc L)
abbrev Mf9 (l : Launch) (Lc L : Lay) (X : SS) (hh : List SS) (y : MethodName) (ws : List Cond) (rm : Room) (as : List Value) (μ : Me) (r : Option Value) (μ' : Me) : Prop :=
  Mg9 l Lc L X hh y ws rm as μ (fun r1 u => r1 = r ∧ u = μ')
theorem Kn9.warm {Lc L : Lay} {s U : State} (hW : s.WarmedH U.vm) (h : Kn9 Lc L s) : Kn9 Lc L U := ⟨h.1.warm hW, va_K.moved hW.alike h.2⟩
theorem Kn9.same {Lc L : Lay} {s U : State} (hv : s.vm = U.vm) (h : Kn9 Lc L s) : Kn9 Lc L U := ⟨h.1.same hv, va_K.moved (by rw [hv]; exact Vm.Alike.refl U.vm) h.2⟩
theorem blind_bs9 (as : List Value) (Lc L : Lay) (X : SS) (hh : List SS) (μ : Me) : FrameBlind (va_Pc as (bs9 Lc L X hh μ)) := fun _ U _ _ q => ⟨q.1, q.2.1, Kn9.same (s := U) rfl q.2.2⟩
theorem HdA.to {A : Nat → Prop} {Lc L : Lay} {X : SS} {hh : List SS} {H0 H : Heap} {μ μ' : Me} {locs : List Loc} (h : HdA A Lc L X hh H0 H μ locs) (e : μ = μ') : HdA A Lc L X hh H0 H μ' locs := e ▸ h
theorem Pw9_kept {L : Lay} {μ : Me} {H H1 : Heap} {A : Nat → Prop} (h : Pw9 L μ H) (ha : ∀ j, j < 10 → ¬ A (ad L j)) (hk : ∀ q, q < H.size → ¬ A q → H1[q]? = H[q]?) : Pw9 L μ H1 := va_P.kept h (fun k q hq => by
  obtain ⟨h1, rfl⟩ := wld9_of hq
  exact hk _ (h k _ hq).lt (ha k h1))
theorem Pw_kept {L : Lay} {σ : St} {H H1 : Heap} {A : Nat → Prop} (h : Pw L σ H) (ha : ∀ j, j < 245 → ¬ A (ad L j)) (hk : ∀ q, q < H.size → ¬ A q → H1[q]? = H[q]?) : Pw L σ H1 := by
  obtain ⟨hw, J, hP⟩ := h
  refine ⟨hw, J, va_P.kept hP (fun k q hq => ?_)⟩
  obtain ⟨h1, rfl⟩ := wld_of hq
  exact hk _ (hP k _ hq).lt (ha k h1)
theorem PX_kept {L : Lay} {X : SS} {hh : List SS} {H H1 : Heap} {A : Nat → Prop} (h : PX L X hh H) (ha : ∀ j, j < 245 → ¬ A (ad L j)) (hk : ∀ q, q < H.size → ¬ A q → H1[q]? = H[q]?) : PX L X hh H1 := by
  obtain ⟨σ, hP, hc⟩ := h
  exact ⟨σ, Pw_kept hP ha hk, hc⟩
section QM9
variable {p : Program} {l : Launch} {e : Env} {R : Room} {s : State} {m : MethodId} {args : Array Value} {below : List Frame} {meth : Method} {c : Code} {H : Heap} {locs : List Loc} {cells slots : Nat} {Q : State → Prop}
variable {cc : ByteArray} {pc nL index : Nat} {own : String} {ls : Array Slot} {rest st0 : List Value} {Lc L : Lay} {H0 : Heap} {X X' : SS} {hh hh' : List SS} {μ μ' : Me} {k : Nat} {A : Nat → Prop}
theorem ln9_lt {k n : Nat} (hk : k < 10) (hn : ln9 k = n) : n < 2 ^ 31 := by
  rw [← hn]
  exact (show ∀ k, k < 10 → ln9 k < 2 ^ 31 from by decide) k hk
theorem g9_el {i n : Nat} (S : CallFix p m c cc nL s args qA own) (hK : Kn9 Lc L s) (h : HdA A Lc L X hh H0 H μ locs) (hk : k < 10) (hn : ln9 k = n) (hi : i < n) (hd : decode cc pc = .ok (.iaload, 1)) (kk : W p l e R s m args below meth c H locs cells slots Q (F0 m (pc + 1) ls (.int (μ k i) :: rest))) : W p l e R s m args below meth c H locs cells slots Q (F0 m pc ls (.int (nI i) :: .ref (ad L k) :: rest)) := by
  have h2 := ln9_lt hk hn
  refine va_iald (D := L.1) (n := n) (f := μ k) S.1 S.2.1 hK.2 h.1.2 k 0 (by rw [wld9_at hk, cnt9, hn]) rfl (vp_in_nI hi h2) hd ?_
  rw [nI_clamp (by omega)]
  exact kk
theorem p9_el {i n : Nat} {x : Int32} (S : CallFix p m c cc nL s args qA own) (hV : VA A Lc L) (hK : Kn9 Lc L s) (h : HdA A Lc L X hh H0 H μ locs) (hk : k < 10) (hn : ln9 k = n) (hi : i < n) (hd : decode cc pc = .ok (.iastore, 1)) (kk : ∀ (H1 : Heap) (locs1 : List Loc), HdA A Lc L X hh H0 H1 (mu μ k i x) locs1 → W p l e R s m args below meth c H1 locs1 cells slots Q (F0 m (pc + 1) ls rest)) : W p l e R s m args below meth c H locs cells slots Q (F0 m pc ls (.int x :: .int (nI i) :: .ref (ad L k) :: rest)) := by
  obtain ⟨⟨hX, hP⟩, hS⟩ := h
  obtain ⟨hI, hI9, hap, hA⟩ := hV
  have h2 := ln9_lt hk hn
  have ha : (wld9 L μ)[k]? = some (ad L k, .inl (L.2.1, n, .inl (μ k))) := by rw [wld9_at hk, cnt9, hn]
  refine W.iast S.1 S.2.1 (hP k _ ha) ((hK.2.2 0 (L.2.1, .int) rfl).1 n (fun j => .int (μ k j))) (fun q => by cases q) (by show ¬ (nI i < 0 ∨ (arrV _ _ _).slots.size ≤ _); rw [arrV_size]; exact vp_in_nI hi h2) rfl rfl hd fun H1 e z oq => ?_
  refine kk H1 _ ⟨⟨PX_kept hX (A := fun q => q = ad L k) (fun j hj e => hap j k hj hk e) (fun q _ hq => oq q hq), ?_⟩, hS.put z oq (hA _ (Or.inr ⟨k, hk, rfl⟩))⟩
  have hP1 : va_P L.1 vwCl ((wld9 L μ).set k (ad L k, .inl (L.2.1, n, .inl (upd (μ k) i x)))) H1 := hP.set (hI9.D μ) ha (by
    show H1[ad L k]? = some (vp_cell _ _)
    rw [e]
    rw [vp_cell_i, vp_cell_i, arrV_store]
    congr 2
    funext q
    rw [nI_clamp (by omega)]
    by_cases hq : q = i
    · subst hq
      simp [updV, upd]
    · simp [updV, upd, hq]) oq
  rw [wld9_set (μ' := mu μ k i x) hk ?_ (fun j _ hj => ?_)] at hP1
  · exact hP1
  · rw [cnt9, hn]
    congr 4
    funext j
    unfold upd
    by_cases q : j = i
    · rw [q, mu_s, if_pos rfl]
    · rw [mu_i q, if_neg q]
  · unfold cnt9
    rw [mu_r hj]
/-- a call of one of the law's own methods -/
theorem k_S {post : Option Value → Me → Prop} (S : CallFix p m c cc nL s args qA own) (hV : VA A Lc L) (hK : Kn9 Lc L s) (h : HdA A Lc L X hh s.heap H μ locs) {y : MethodName} {maxL n : Nat} {bytes : ByteArray} {ret : Option FieldType} {rm : Room} {As : List Value} (hM : Mg9 l Lc L X hh y (Cond.code y bytes maxL ret :: qA) rm As μ post)
    (w1 : Cond.methodLink own index y ∈ qA) (w2 : Cond.static y ∈ qA) (w4 : Cond.initialized own ∈ qA) (w5 : Cond.code y bytes maxL ret ∈ qA)
    (hd : ydV y own n) (hn : As.length = n) (hR : rmFit rm R maxL cells slots) (hstk : st0 = As.reverse ++ rest) (hrest : (rest.map fun v => v.category).sum ≤ 8) (hsz : ls.size = nL) (hdg : decode cc pc = .ok (.invokestatic index, 3))
    (kk : ∀ (r : Option Value) (u : Me) (H1 : Heap) (locs1 : List Loc), post r u → HdA A Lc L X hh s.heap H1 u locs1 → W p l e R s m args below meth c H1 locs1 cells slots Q (F0 m (pc + 3) ls (r.toList ++ rest))) : W p l e R s m args below meth c H locs cells slots Q (F0 m pc ls st0) := by
  obtain ⟨hP, hS⟩ := h
  refine va_callg (va_runS (As := As) (rest := rest) S (hM hV.own) (cwS n S.2.2.2.2 (good_S w1 w2 w4 w5) rfl hR.1.1 hR.1.2 hd hR.2.1) ⟨blind_bs9 _ Lc L X hh μ, fun U hU hW => ⟨rfl, by rw [hU]; exact hP, hK.warm hW⟩⟩ rfl hn hsz hstk (lv_room hrest) hdg hR.2.2) hS (fun q _ h => hV.2.2.2 q h) (fun q h => hV.2.2.2 q h) (fun r u t H1 locs1 ht _ hp hB _ _ hS1 => kk r u H1 locs1 hp ⟨by rw [← ht]; exact hB.1, hS1⟩)
/-- .. with a known answer and a known end -/
theorem k_S1 {v : Value} (S : CallFix p m c cc nL s args qA own) (hV : VA A Lc L) (hK : Kn9 Lc L s) (h : HdA A Lc L X hh s.heap H μ locs) {y : MethodName} {maxL n : Nat} {bytes : ByteArray} {ret : Option FieldType} {rm : Room} (As : List Value) (hM : Mf9 l Lc L X hh y (Cond.code y bytes maxL ret :: qA) rm As μ (some v) μ')
    (w1 : Cond.methodLink own index y ∈ qA) (w2 : Cond.static y ∈ qA) (w4 : Cond.initialized own ∈ qA) (w5 : Cond.code y bytes maxL ret ∈ qA)
    (hd : ydV y own n) (hn : As.length = n) (hR : rmFit rm R maxL cells slots) (hstk : st0 = As.reverse ++ rest) (hrest : (rest.map fun v => v.category).sum ≤ 8) (hsz : ls.size = nL) (hdg : decode cc pc = .ok (.invokestatic index, 3))
    (kk : ∀ (H1 : Heap) (locs1 : List Loc), HdA A Lc L X hh s.heap H1 μ' locs1 → W p l e R s m args below meth c H1 locs1 cells slots Q (F0 m (pc + 3) ls (v :: rest))) : W p l e R s m args below meth c H locs cells slots Q (F0 m pc ls st0) := by
  refine k_S S hV hK h hM w1 w2 w4 w5 hd hn hR hstk hrest hsz hdg (fun r u H1 locs1 hp h1 => ?_)
  obtain ⟨rfl, rfl⟩ := hp
  exact kk H1 locs1 h1
theorem k_S0 (S : CallFix p m c cc nL s args qA own) (hV : VA A Lc L) (hK : Kn9 Lc L s) (h : HdA A Lc L X hh s.heap H μ locs) {y : MethodName} {maxL n : Nat} {bytes : ByteArray} {ret : Option FieldType} {rm : Room} (As : List Value) (hM : Mf9 l Lc L X hh y (Cond.code y bytes maxL ret :: qA) rm As μ none μ')
    (w1 : Cond.methodLink own index y ∈ qA) (w2 : Cond.static y ∈ qA) (w4 : Cond.initialized own ∈ qA) (w5 : Cond.code y bytes maxL ret ∈ qA)
    (hd : ydV y own n) (hn : As.length = n) (hR : rmFit rm R maxL cells slots) (hstk : st0 = As.reverse ++ rest) (hrest : (rest.map fun v => v.category).sum ≤ 8) (hsz : ls.size = nL) (hdg : decode cc pc = .ok (.invokestatic index, 3))
    (kk : ∀ (H1 : Heap) (locs1 : List Loc), HdA A Lc L X hh s.heap H1 μ' locs1 → W p l e R s m args below meth c H1 locs1 cells slots Q (F0 m (pc + 3) ls rest)) : W p l e R s m args below meth c H locs cells slots Q (F0 m pc ls st0) := by
  refine k_S S hV hK h hM w1 w2 w4 w5 hd hn hR hstk hrest hsz hdg (fun r u H1 locs1 hp h1 => ?_)
  obtain ⟨rfl, rfl⟩ := hp
  exact kk H1 locs1 h1
/-- .. with a known answer and a relation for an end -/
theorem k_SR {rv : Option Value} {Post : Me → Prop} (S : CallFix p m c cc nL s args qA own) (hV : VA A Lc L) (hK : Kn9 Lc L s) (h : HdA A Lc L X hh s.heap H μ locs) {y : MethodName} {maxL n : Nat} {bytes : ByteArray} {ret : Option FieldType} {rm : Room} (As : List Value) (hM : Mg9 l Lc L X hh y (Cond.code y bytes maxL ret :: qA) rm As μ (fun r u => r = rv ∧ Post u))
    (w1 : Cond.methodLink own index y ∈ qA) (w2 : Cond.static y ∈ qA) (w4 : Cond.initialized own ∈ qA) (w5 : Cond.code y bytes maxL ret ∈ qA)
    (hd : ydV y own n) (hn : As.length = n) (hR : rmFit rm R maxL cells slots) (hstk : st0 = As.reverse ++ rest) (hrest : (rest.map fun v => v.category).sum ≤ 8) (hsz : ls.size = nL) (hdg : decode cc pc = .ok (.invokestatic index, 3))
    (kk : ∀ (u : Me) (H1 : Heap) (locs1 : List Loc), Post u → HdA A Lc L X hh s.heap H1 u locs1 → W p l e R s m args below meth c H1 locs1 cells slots Q (F0 m (pc + 3) ls (rv.toList ++ rest))) : W p l e R s m args below meth c H locs cells slots Q (F0 m pc ls st0) := by
  refine k_S S hV hK h hM w1 w2 w4 w5 hd hn hR hstk hrest hsz hdg (fun r u H1 locs1 hp h1 => ?_)
  obtain ⟨rfl, hp⟩ := hp
  exact kk u H1 locs1 hp h1
/-- a call of a public method of the class -/
theorem k_C {v : Int32} (S : CallFix p m c cc nL s args qA own) (hV : VA A Lc L) (hK : Kn9 Lc L s) (h : HdA A Lc L X hh s.heap H μ locs) {y : MethodName} {maxL n : Nat} {bytes : ByteArray} {ret : Option FieldType} {rm : Room} (As : List Value) (hM : ∀ σ, CR σ (clX X) (hh.map clX) [] → Mg l Lc y (Cond.code y bytes maxL ret :: qA) rm (.ref (ad Lc 244) :: As) σ (fun r u => r = some (.int v) ∧ CR u (clX X') (hh'.map clX) []))
    (w1 : Cond.methodLink own index y ∈ qA) (w2 : Cond.instanceMethod y ∈ qA) (w3 : Cond.selects RX7 y y ∈ qA) (w4 : Cond.initialized RX7 ∈ qA) (w5 : Cond.code y bytes maxL ret ∈ qA)
    (hd : ydV y RX7 n) (hn : As.length = n) (hR : rmFit rm R maxL cells slots) (hstk : st0 = As.reverse ++ .ref (ad Lc 244) :: rest) (hrest : (rest.map fun v => v.category).sum ≤ 8) (hsz : ls.size = nL) (hdg : decode cc pc = .ok (.invokevirtual index, 3))
    (kk : ∀ (H1 : Heap) (locs1 : List Loc), HdA A Lc L X' hh' s.heap H1 μ locs1 → W p l e R s m args below meth c H1 locs1 cells slots Q (F0 m (pc + 3) ls (.int v :: rest))) : W p l e R s m args below meth c H locs cells slots Q (F0 m pc ls st0) := by
  obtain ⟨⟨⟨σ, hP, hc⟩, hP9⟩, hS⟩ := h
  obtain ⟨-, J, hPJ⟩ := id hP
  refine va_callg (va_runV (As := As) (rest := rest) S (hM σ hc hV.1) (cwV n S.2.2.2.2 (good_V w1 w2 w3 w4 w5) rfl hR.1.1 hR.1.2 hd hR.2.1) ⟨blind_bs _ Lc σ, va_recv hK.1.1 hPJ (ci := 7) rfl (by rw [wld_at (show 244 < 245 by decide)]; rfl), fun U2 hU hW => ⟨rfl, by rw [hU]; exact hP, hK.1.warm hW⟩⟩ rfl hn hsz hstk (lv_room hrest) hdg hR.2.2) hS (fun q _ z => hV.c q z) (fun q z => hV.c q z) (fun r u t H1 locs1 ht _ hp hB hz hk hS1 => ?_)
  obtain ⟨rfl, hc1⟩ := hp
  refine kk H1 locs1 ⟨⟨⟨u, by rw [← ht]; exact hB.1, hc1⟩, Pw9_kept hP9 (fun j hj z => ?_) hk⟩, hS1⟩
  obtain ⟨i, hi, e2⟩ := z
  exact hV.2.2.1 i j hi hj e2.symm
theorem e_i9 {post : Option Value → Me → Prop} (S : CallFix p m c cc nL s args qA own) (hK : Kn9 Lc L s) (h : Hd9 Lc L X hh s.heap H μ locs) (hr : meth.sig.returnType = some .int) (hlocks : meth.locks = false) {v : Int32} (hd : decode cc pc = .ok (.ireturn, 1)) (hp : post (some (.int v)) μ) : W p l e R s m args below meth c H locs cells slots (MQ below (Qg post (bs9 Lc L X hh) (A9 Lc L)) args s cells slots (A9 Lc L)) (F0 m pc ls [.int v]) :=
  W.iret S.1 S.2.1 hr (fun t ht hW => ⟨⟨_, μ, rfl, hp, by rw [bs9, ht]; exact ⟨h.1, hK.warm hW⟩⟩, h.2.F ht⟩) h.2.2.2 hd hlocks
theorem e_z9 {post : Option Value → Me → Prop} (S : CallFix p m c cc nL s args qA own) (hK : Kn9 Lc L s) (h : Hd9 Lc L X hh s.heap H μ locs) (hr : meth.sig.returnType = some .boolean) (hlocks : meth.locks = false) {v : Int32} (hv : v = 0 ∨ v = 1) (hd : decode cc pc = .ok (.ireturn, 1)) (hp : post (some (.int v)) μ) : W p l e R s m args below meth c H locs cells slots (MQ below (Qg post (bs9 Lc L X hh) (A9 Lc L)) args s cells slots (A9 Lc L)) (F0 m pc ls [.int v]) :=
  W.zret (ty := .boolean) S.1 S.2.1 hr (by rcases hv with rfl | rfl <;> rfl) (fun t ht hW => ⟨⟨_, μ, rfl, hp, by rw [bs9, ht]; exact ⟨h.1, hK.warm hW⟩⟩, h.2.F ht⟩) h.2.2.2 hd hlocks
theorem e_v9 {post : Option Value → Me → Prop} (S : CallFix p m c cc nL s args qA own) (hK : Kn9 Lc L s) (h : Hd9 Lc L X hh s.heap H μ locs) (hr : meth.sig.returnType = none) (hlocks : meth.locks = false) (hd : decode cc pc = .ok (.return_, 1)) (hp : post none μ) : W p l e R s m args below meth c H locs cells slots (MQ below (Qg post (bs9 Lc L X hh) (A9 Lc L)) args s cells slots (A9 Lc L)) (F0 m pc ls []) :=
  W.vret S.1 S.2.1 hr (fun t ht hW => ⟨⟨_, μ, rfl, hp, by rw [bs9, ht]; exact ⟨h.1, hK.warm hW⟩⟩, h.2.F ht⟩) h.2.2.2 hd hlocks
theorem Mg9.ofW {y : MethodName} {rm : Room} {maxL : Nat} {ret : Option FieldType} {as : List Value} {post : Option Value → Me → Prop} (hy : plainName y.cls = true) (hlen : (lg_sl as).length ≤ maxL)
    (body : ∀ (p : Program) (e : Env) (s : State) (m : MethodId) (args : Array Value) (below : List Frame) (meth : Method) (c : Code) (ls : Array Slot), VA (A9 Lc L) Lc L → CallFix p m c cc maxL s args qA y.cls → meth.sig.returnType = ret → meth.locks = false → Kn9 Lc L s → Hd9 Lc L X hh s.heap s.heap μ [] → lv_has ls maxL (lv_args 0 as) →
      W p l e rm s m args below meth c s.heap [] 0 0 (MQ below (Qg post (bs9 Lc L X hh) (A9 Lc L)) args s 0 0 (A9 Lc L)) (F0 m 0 ls [])) : Mg9 l Lc L X hh y (Cond.code y cc maxL ret :: qA) rm as μ post := by
  intro hI
  refine Met.ofW (cc := cc) (maxL := maxL) (ret := ret) hy rfl ?_
  intro p e s m args below meth c s₁ B hml hv
  obtain ⟨rfl, hP, hK⟩ := hv
  have hts := atoms_spec (ws := Cond.code y cc maxL ret :: qA) B.pre
  have hl := lv_entry as (n := maxL) hlen
  rw [lg_entry_eq]
  exact body p e s m _ below meth c _ hI ⟨B.exec, B.bytes, hml, findClass_of_methodNamed B.named, fun w h => hts w (List.mem_cons_of_mem _ h)⟩ B.returns B.notSynchronized hK ⟨hP, va_S.rf⟩ hl
theorem Mf9.ofW {y : MethodName} {rm : Room} {maxL : Nat} {ret : Option FieldType} {as : List Value} {r : Option Value} (hy : plainName y.cls = true) (hlen : (lg_sl as).length ≤ maxL)
    (body : ∀ (p : Program) (e : Env) (s : State) (m : MethodId) (args : Array Value) (below : List Frame) (meth : Method) (c : Code) (ls : Array Slot) (post : Option Value → Me → Prop), post r μ' → VA (A9 Lc L) Lc L → CallFix p m c cc maxL s args qA y.cls → meth.sig.returnType = ret → meth.locks = false → Kn9 Lc L s → Hd9 Lc L X hh s.heap s.heap μ [] → lv_has ls maxL (lv_args 0 as) →
      W p l e rm s m args below meth c s.heap [] 0 0 (MQ below (Qg post (bs9 Lc L X hh) (A9 Lc L)) args s 0 0 (A9 Lc L)) (F0 m 0 ls [])) : Mf9 l Lc L X hh y (Cond.code y cc maxL ret :: qA) rm as μ r μ' :=
  Mg9.ofW hy hlen (fun p e s m args below meth c ls hI S hr hk hK h hl => body p e s m args below meth c ls _ ⟨rfl, rfl⟩ hI S hr hk hK h hl)
theorem Mr9_ofW {y : MethodName} {rm : Room} {maxL : Nat} {ret : Option FieldType} {as : List Value} {Post : Option Value → Me → Prop} (hy : plainName y.cls = true) (hlen : (lg_sl as).length ≤ maxL)
    (body : ∀ (p : Program) (e : Env) (s : State) (m : MethodId) (args : Array Value) (below : List Frame) (meth : Method) (c : Code) (ls : Array Slot) (post : Option Value → Me → Prop), (∀ r u, Post r u → post r u) → VA (A9 Lc L) Lc L → CallFix p m c cc maxL s args qA y.cls → meth.sig.returnType = ret → meth.locks = false → Kn9 Lc L s → Hd9 Lc L X hh s.heap s.heap μ [] → lv_has ls maxL (lv_args 0 as) →
      W p l e rm s m args below meth c s.heap [] 0 0 (MQ below (Qg post (bs9 Lc L X hh) (A9 Lc L)) args s 0 0 (A9 Lc L)) (F0 m 0 ls [])) : Mg9 l Lc L X hh y (Cond.code y cc maxL ret :: qA) rm as μ Post :=
  Mg9.ofW hy hlen (fun p e s m args below meth c ls hI S hr hk hK h hl => body p e s m args below meth c ls _ (fun _ _ h => h) hI S hr hk hK h hl)
theorem fin_p9 {post : Option Value → Me → Prop} {r r' : Option Value} {μ μ' : Me} (h : post r' μ') (h1 : r = r') (h2 : μ = μ') : post r μ := h1 ▸ h2 ▸ h
end QM9

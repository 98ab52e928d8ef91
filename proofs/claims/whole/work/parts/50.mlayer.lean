/-! The model's world: one object and nine arrays of ints; what changes in it is an int at a place of an array, or of the object (array 0). -/
abbrev Me : Type := Nat → Nat → Int32
def ln8 (k : Nat) : Nat := [0, 3074, 12296, 60, 400, 400, 400, 400, 200, 3].getD k 0
def fs8 (L : Lay) (σ : Me) : List Value := [.ref (ad L 1), .ref (ad L 2), .int (σ 0 0), .ref (ad L 3), .int (σ 0 1), .ref (ad L 4), .ref (ad L 5), .ref (ad L 6), .ref (ad L 7), .int (σ 0 2), .ref (ad L 8), .int (σ 0 3), .int (σ 0 4), .int (σ 0 5), .ref (ad L 9)]
def cnt8 (L : Lay) (σ : Me) (k : Nat) : va_E := if k = 0 then .inr (8, fs8 L σ) else .inl (L.2.1, ln8 k, .inl (σ k))
def wld8 (L : Lay) (σ : Me) : va_W := (List.range 10).map (fun k => (ad L k, cnt8 L σ k))
def mu (σ : Me) (k i : Nat) (v : Int32) : Me := fun k' i' => if k' = k ∧ i' = i then v else σ k' i'
theorem mu_s {σ : Me} {k i : Nat} {v : Int32} : mu σ k i v k i = v := if_pos ⟨rfl, rfl⟩
theorem mu_k {σ : Me} {k i k' i' : Nat} {v : Int32} (h : k' ≠ k) : mu σ k i v k' i' = σ k' i' := if_neg (fun q => h q.1)
theorem mu_i {σ : Me} {k i k' i' : Nat} {v : Int32} (h : i' ≠ i) : mu σ k i v k' i' = σ k' i' := if_neg (fun q => h q.2)
theorem mu_r {σ : Me} {k i k' : Nat} {v : Int32} (h : k' ≠ k) : mu σ k i v k' = σ k' := by
  funext i'
  exact mu_k h
theorem mu_id {σ : Me} {k i : Nat} {v : Int32} (h : σ k i = v) : mu σ k i v = σ := by
  funext k' i'
  by_cases q : k' = k ∧ i' = i
  · rw [q.1, q.2, mu_s, h]
  · exact if_neg q
theorem mu_mu {σ : Me} {k i : Nat} {v w : Int32} : mu (mu σ k i v) k i w = mu σ k i w := by
  funext k' i'
  by_cases q : k' = k ∧ i' = i
  · rw [q.1, q.2, mu_s, mu_s]
  · unfold mu
    rw [if_neg q, if_neg q, if_neg q]
theorem wld8_at {L : Lay} {σ : Me} {k : Nat} (hk : k < 10) : (wld8 L σ)[k]? = some (ad L k, cnt8 L σ k) := by
  rw [wld8, List.getElem?_map, List.getElem?_range hk]
  rfl
theorem wld8_no {L : Lay} {σ : Me} {k : Nat} (hk : ¬ k < 10) : (wld8 L σ)[k]? = none := by
  rw [List.getElem?_eq_none_iff]
  simp [wld8]
  omega
theorem wld8_set {L : Lay} {σ σ' : Me} {k : Nat} {e : va_E} (hk : k < 10) (h1 : cnt8 L σ' k = e) (h2 : ∀ j, j < 10 → j ≠ k → cnt8 L σ' j = cnt8 L σ j) : (wld8 L σ).set k (ad L k, e) = wld8 L σ' := by
  apply List.ext_getElem?
  intro j
  by_cases hj : j < 10
  · rw [wld8_at hj]
    by_cases hjk : j = k
    · subst hjk
      rw [List.getElem?_set_self (by simp [wld8]; omega), h1]
    · rw [List.getElem?_set_ne (Ne.symm hjk), wld8_at hj, h2 j hj hjk]
  · rw [wld8_no hj, List.getElem?_eq_none_iff]
    simp [wld8]
    omega
def Inj8 (L : Lay) : Prop := ∀ i j, i < 10 → j < 10 → ad L i = ad L j → i = j
def Aw8 (L : Lay) : Nat → Prop := fun q => ∃ k, k < 10 ∧ q = ad L k
theorem wld8_of {L : Lay} {σ : Me} {k : Nat} {q : Nat × va_E} (h : (wld8 L σ)[k]? = some q) : k < 10 ∧ q = (ad L k, cnt8 L σ k) := by
  by_cases hk : k < 10
  · rw [wld8_at hk] at h
    exact ⟨hk, (Option.some.inj h).symm⟩
  · rw [wld8_no hk] at h
    cases h
theorem Inj8.D {L : Lay} (h : Inj8 L) (σ : Me) : va_D (Aw8 L) (wld8 L σ) := by
  refine ⟨fun i j p q hi hj e => ?_, fun k q hk => ?_⟩
  · obtain ⟨h1, rfl⟩ := wld8_of hi
    obtain ⟨h2, rfl⟩ := wld8_of hj
    exact h i j h1 h2 e
  · obtain ⟨h1, rfl⟩ := wld8_of hk
    exact ⟨k, h1, rfl⟩
def Kn8 (L : Lay) (U : State) : Prop := va_K L.1 vwCl (tyL L) U
def Pw8 (L : Lay) (σ : Me) (H : Heap) : Prop := va_P L.1 vwCl (wld8 L σ) H
def bs8 (L : Lay) (σ : Me) (U : State) : Prop := Pw8 L σ U.heap ∧ Kn8 L U
def Hd8 (L : Lay) (H0 H : Heap) (σ : Me) (locs : List Loc) : Prop := Pw8 L σ H ∧ va_S (Aw8 L) H0 H locs
def Mg8 (l : Launch) (L : Lay) (y : MethodName) (ws : List Cond) (rm : Room) (as : List Value) (σ : Me) (post : Option Value → Me → Prop) : Prop :=
  Inj8 L → Met l y ws rm (va_Pc as (bs8 L σ)) (Qg post (bs8 L) (Aw8 L)) 0 0 (Aw8 L)
abbrev Mf8 (l : Launch) (L : Lay) (y : MethodName) (ws : List Cond) (rm : Room) (as : List Value) (σ : Me) (r : Option Value) (σ' : Me) : Prop :=
  Mg8 l L y ws rm as σ (fun r1 u => r1 = r ∧ u = σ')
theorem Kn8.warm {L : Lay} {s U : State} (hW : s.WarmedH U.vm) (h : Kn8 L s) : Kn8 L U := va_K.moved hW.alike h
theorem Kn8.same {L : Lay} {s U : State} (hv : s.vm = U.vm) (h : Kn8 L s) : Kn8 L U := va_K.moved (by rw [hv]; exact Vm.Alike.refl U.vm) h
theorem blind_bs8 (as : List Value) (L : Lay) (σ : Me) : FrameBlind (va_Pc as (bs8 L σ)) := fun _ U _ _ q => ⟨q.1, q.2.1, Kn8.same (s := U) rfl q.2.2⟩
theorem Hd8.to {L : Lay} {H0 H : Heap} {σ σ' : Me} {locs : List Loc} (h : Hd8 L H0 H σ locs) (e : σ = σ') : Hd8 L H0 H σ' locs := e ▸ h
section QM8
variable {p : Program} {l : Launch} {e : Env} {R : Room} {s : State} {m : MethodId} {args : Array Value} {below : List Frame} {meth : Method} {c : Code} {H : Heap} {locs : List Loc} {cells slots : Nat} {Q : State → Prop}
variable {cc : ByteArray} {pc nL index : Nat} {own : String} {ls : Array Slot} {rest st0 : List Value} {L : Lay} {H0 : Heap} {σ σ' : Me} {k : Nat}
theorem g8 (S : CallFix p m c cc nL s args qA own) (hK : Kn8 L s) (h : Hd8 L H0 H σ locs) (f : Nat) (hf : f < 15) {v : Value} (hv : (fs8 L σ)[f]? = some v) {n d : String} {z : Bool} (hn : TX8 f = ("QuantileDigestsModel", n, d, z))
    (hq : Cond.fieldLink own index "QuantileDigestsModel" n d ∈ qA) (hd : decode cc pc = .ok (.getfield index, 3)) (kk : W p l e R s m args below meth c H locs cells slots Q (F0 m (pc + 3) ls (v :: rest))) : W p l e R s m args below meth c H locs cells slots Q (F0 m pc ls (.ref (ad L 0) :: rest)) :=
  va_get (D := L.1) (ci := 8) (C := RX8) (T := TX8) (N := 15) S.1 S.2.1 S.2.2.2.2 i_wsX80 S.2.2.2.1 hK h.1 0 (by rw [wld8_at (by omega)]; rfl) rfl f hf (S.2.2.2.2 _ (by rw [hn]; exact hq)) (fun x hx => by rw [show (TX8 f).1 = RX8 from by rw [hn]; rfl] at hx; exact hx) hv hd kk
/-- an int of the object is written -/
theorem p8 (i f : Nat) {x : Int32} (S : CallFix p m c cc nL s args qA own) (hI : Inj8 L) (hK : Kn8 L s) (h : Hd8 L H0 H σ locs) (hf : f < 15) {n : String} (hn : TX8 f = ("QuantileDigestsModel", n, "I", false)) (hs : ∀ σ : Me, fs8 L (mu σ 0 i x) = (fs8 L σ).set f (.int x))
    (hq : Cond.fieldLink own index "QuantileDigestsModel" n "I" ∈ qA) (hd : decode cc pc = .ok (.putfield index, 3)) (kk : ∀ (H1 : Heap) (locs1 : List Loc), Hd8 L H0 H1 (mu σ 0 i x) locs1 → W p l e R s m args below meth c H1 locs1 cells slots Q (F0 m (pc + 3) ls rest)) : W p l e R s m args below meth c H locs cells slots Q (F0 m pc ls (.int x :: .ref (ad L 0) :: rest)) := by
  obtain ⟨hP, hS⟩ := h
  refine va_put (D := L.1) (ci := 8) (C := RX8) (T := TX8) (N := 15) (ty := .int) S.1 S.2.1 S.2.2.2.2 i_wsX80 tyX8 tyX8_ok nmX8 S.2.2.2.1 hK hP (hI.D σ) hS 0 (by rw [wld8_at (by omega)]; rfl) rfl f hf (S.2.2.2.2 _ (by rw [hn]; exact hq)) (fun x hx => by rw [show (TX8 f).1 = RX8 from by rw [hn]; rfl] at hx; exact hx) (by rw [hn]) (by rw [hn]; show parseFieldDescriptor "I" = _; decide +kernel) rfl rfl (show f < (fs8 L σ).length from hf) hd (fun H1 locs1 hP1 _ hS1 => kk H1 locs1 ⟨?_, hS1⟩)
  rw [wld8_set (σ' := mu σ 0 i x) (by omega) ?_ (fun j _ hj => ?_)] at hP1
  · exact hP1
  · show Sum.inr (8, fs8 L (mu σ 0 i x)) = _
    rw [hs]
  · unfold cnt8
    rw [if_neg hj, if_neg hj, mu_r hj]
theorem g8_el {i n : Nat} (S : CallFix p m c cc nL s args qA own) (hK : Kn8 L s) (h : Hd8 L H0 H σ locs) (hk : 0 < k ∧ k < 10) (hn : ln8 k = n) (hi : i < n) (hd : decode cc pc = .ok (.iaload, 1)) (kk : W p l e R s m args below meth c H locs cells slots Q (F0 m (pc + 1) ls (.int (σ k i) :: rest))) : W p l e R s m args below meth c H locs cells slots Q (F0 m pc ls (.int (nI i) :: .ref (ad L k) :: rest)) := by
  have h2 : n < 2 ^ 31 := by
    rw [← hn]
    have := (show ∀ k, k < 10 → ln8 k < 2 ^ 31 from by decide) k hk.2
    exact this
  refine va_iald (D := L.1) (n := n) (f := σ k) S.1 S.2.1 hK h.1 k 0 (by rw [wld8_at hk.2, cnt8, if_neg (by omega), hn]) rfl (vp_in_nI hi h2) hd ?_
  rw [nI_clamp (by omega)]
  exact kk
theorem p8_el {i n : Nat} {x : Int32} (S : CallFix p m c cc nL s args qA own) (hI : Inj8 L) (hK : Kn8 L s) (h : Hd8 L H0 H σ locs) (hk : 0 < k ∧ k < 10) (hn : ln8 k = n) (hi : i < n) (hd : decode cc pc = .ok (.iastore, 1)) (kk : ∀ (H1 : Heap) (locs1 : List Loc), Hd8 L H0 H1 (mu σ k i x) locs1 → W p l e R s m args below meth c H1 locs1 cells slots Q (F0 m (pc + 1) ls rest)) : W p l e R s m args below meth c H locs cells slots Q (F0 m pc ls (.int x :: .int (nI i) :: .ref (ad L k) :: rest)) := by
  have h2 : n < 2 ^ 31 := by
    rw [← hn]
    have := (show ∀ k, k < 10 → ln8 k < 2 ^ 31 from by decide) k hk.2
    exact this
  refine va_iast (D := L.1) (n := n) (f := σ k) S.1 S.2.1 hK h.1 (hI.D σ) h.2 k 0 (by rw [wld8_at hk.2, cnt8, if_neg (by omega), hn]) rfl (vp_in_nI hi h2) hd (fun H1 locs1 hP1 _ hS1 => kk H1 locs1 ⟨?_, hS1⟩)
  rw [nI_clamp (by omega), wld8_set (σ' := mu σ k i x) hk.2 ?_ (fun j _ hj => ?_)] at hP1
  · exact hP1
  · rw [cnt8, if_neg (by omega), hn]
    congr 4
    funext j
    unfold upd
    by_cases q : j = i
    · rw [q, mu_s, if_pos rfl]
    · rw [mu_i q, if_neg q]
  · unfold cnt8
    split
    · unfold fs8
      rw [mu_k (by omega), mu_k (by omega), mu_k (by omega), mu_k (by omega), mu_k (by omega), mu_k (by omega)]
    · rw [mu_r hj]
theorem q_V8 {post : Option Value → Me → Prop} (S : CallFix p m c cc nL s args qA own) (hI : Inj8 L) (hK : Kn8 L s) (h : Hd8 L s.heap H σ locs) {y : MethodName} {maxL n : Nat} {bytes : ByteArray} {ret : Option FieldType} {rm : Room} {As : List Value} (hM : Mg8 l L y (Cond.code y bytes maxL ret :: qA) rm (.ref (ad L 0) :: As) σ post)
    (w1 : Cond.methodLink own index y ∈ qA) (w2 : Cond.instanceMethod y ∈ qA) (w3 : Cond.selects RX8 y y ∈ qA) (w4 : Cond.initialized RX8 ∈ qA) (w5 : Cond.code y bytes maxL ret ∈ qA)
    (hd : y.cls = RX8 ∧ y.cls ≠ "java/lang/invoke/MethodHandle" ∧ y.cls ≠ "java/lang/invoke/VarHandle" ∧ (parseMethodDescriptor y.desc).map (fun d => d.parameters.length) = some n) (hn : As.length = n) (hR : rmFit rm R maxL cells slots) (hstk : st0 = As.reverse ++ .ref (ad L 0) :: rest) (hrest : (rest.map fun v => v.category).sum ≤ 8) (hsz : ls.size = nL) (hdg : decode cc pc = .ok (.invokevirtual index, 3))
    (kk : ∀ (r : Option Value) (u : Me) (H1 : Heap) (locs1 : List Loc), post r u → Hd8 L s.heap H1 u locs1 → W p l e R s m args below meth c H1 locs1 cells slots Q (F0 m (pc + 3) ls (r.toList ++ rest))) : W p l e R s m args below meth c H locs cells slots Q (F0 m pc ls st0) := by
  obtain ⟨hP, hS⟩ := h
  refine va_callg (va_runV (As := As) (rest := rest) S (hM hI) (cwV n S.2.2.2.2 (good_V w1 w2 w3 w4 w5) rfl hR.1.1 hR.1.2 hd hR.2.1) ⟨blind_bs8 _ L σ, va_recv hK (id hP) (show vwCl[8]? = some (RX8, TX8, 15) from rfl) (by rw [wld8_at (k := 0) (by omega)]; rfl), fun U hU hW => ⟨rfl, by rw [hU]; exact hP, hK.warm hW⟩⟩ rfl hn hsz hstk (lv_room hrest) hdg hR.2.2) hS (fun q _ h => h) (fun q h => h) (fun r u t H1 locs1 ht _ hp hB _ _ hS1 => kk r u H1 locs1 hp ⟨by rw [← ht]; exact hB.1, hS1⟩)
theorem q_S8 {post : Option Value → Me → Prop} (S : CallFix p m c cc nL s args qA own) (hI : Inj8 L) (hK : Kn8 L s) (h : Hd8 L s.heap H σ locs) {y : MethodName} {maxL n : Nat} {bytes : ByteArray} {ret : Option FieldType} {rm : Room} {As : List Value} (hM : Mg8 l L y (Cond.code y bytes maxL ret :: qA) rm As σ post)
    (w1 : Cond.methodLink own index y ∈ qA) (w2 : Cond.static y ∈ qA) (w4 : Cond.initialized own ∈ qA) (w5 : Cond.code y bytes maxL ret ∈ qA)
    (hd : y.cls = own ∧ y.cls ≠ "java/lang/invoke/MethodHandle" ∧ y.cls ≠ "java/lang/invoke/VarHandle" ∧ (parseMethodDescriptor y.desc).map (fun d => d.parameters.length) = some n) (hn : As.length = n) (hR : rmFit rm R maxL cells slots) (hstk : st0 = As.reverse ++ rest) (hrest : (rest.map fun v => v.category).sum ≤ 8) (hsz : ls.size = nL) (hdg : decode cc pc = .ok (.invokestatic index, 3))
    (kk : ∀ (r : Option Value) (u : Me) (H1 : Heap) (locs1 : List Loc), post r u → Hd8 L s.heap H1 u locs1 → W p l e R s m args below meth c H1 locs1 cells slots Q (F0 m (pc + 3) ls (r.toList ++ rest))) : W p l e R s m args below meth c H locs cells slots Q (F0 m pc ls st0) := by
  obtain ⟨hP, hS⟩ := h
  refine va_callg (va_runS (As := As) (rest := rest) S (hM hI) (cwS n S.2.2.2.2 (good_S w1 w2 w4 w5) rfl hR.1.1 hR.1.2 hd hR.2.1) ⟨blind_bs8 _ L σ, fun U hU hW => ⟨rfl, by rw [hU]; exact hP, hK.warm hW⟩⟩ rfl hn hsz hstk (lv_room hrest) hdg hR.2.2) hS (fun q _ h => h) (fun q h => h) (fun r u t H1 locs1 ht _ hp hB _ _ hS1 => kk r u H1 locs1 hp ⟨by rw [← ht]; exact hB.1, hS1⟩)
theorem e_i8 {post : Option Value → Me → Prop} (S : CallFix p m c cc nL s args qA own) (hK : Kn8 L s) (h : Hd8 L s.heap H σ locs) (hr : meth.sig.returnType = some .int) (hlocks : meth.locks = false) {v : Int32} (hd : decode cc pc = .ok (.ireturn, 1)) (hp : post (some (.int v)) σ) : W p l e R s m args below meth c H locs cells slots (MQ below (Qg post (bs8 L) (Aw8 L)) args s cells slots (Aw8 L)) (F0 m pc ls [.int v]) :=
  W.iret S.1 S.2.1 hr (fun t ht hW => ⟨⟨_, σ, rfl, hp, by rw [bs8, ht]; exact ⟨h.1, hK.warm hW⟩⟩, h.2.F ht⟩) h.2.2.2 hd hlocks
theorem e_z8 {post : Option Value → Me → Prop} (S : CallFix p m c cc nL s args qA own) (hK : Kn8 L s) (h : Hd8 L s.heap H σ locs) (hr : meth.sig.returnType = some .boolean) (hlocks : meth.locks = false) {v : Int32} (hv : v = 0 ∨ v = 1) (hd : decode cc pc = .ok (.ireturn, 1)) (hp : post (some (.int v)) σ) : W p l e R s m args below meth c H locs cells slots (MQ below (Qg post (bs8 L) (Aw8 L)) args s cells slots (Aw8 L)) (F0 m pc ls [.int v]) :=
  W.zret (ty := .boolean) S.1 S.2.1 hr (by rcases hv with rfl | rfl <;> rfl) (fun t ht hW => ⟨⟨_, σ, rfl, hp, by rw [bs8, ht]; exact ⟨h.1, hK.warm hW⟩⟩, h.2.F ht⟩) h.2.2.2 hd hlocks
theorem e_v8 {post : Option Value → Me → Prop} (S : CallFix p m c cc nL s args qA own) (hK : Kn8 L s) (h : Hd8 L s.heap H σ locs) (hr : meth.sig.returnType = none) (hlocks : meth.locks = false) (hd : decode cc pc = .ok (.return_, 1)) (hp : post none σ) : W p l e R s m args below meth c H locs cells slots (MQ below (Qg post (bs8 L) (Aw8 L)) args s cells slots (Aw8 L)) (F0 m pc ls []) :=
  W.vret S.1 S.2.1 hr (fun t ht hW => ⟨⟨_, σ, rfl, hp, by rw [bs8, ht]; exact ⟨h.1, hK.warm hW⟩⟩, h.2.F ht⟩) h.2.2.2 hd hlocks
theorem Mg8.ofW {y : MethodName} {rm : Room} {maxL : Nat} {ret : Option FieldType} {as : List Value} {post : Option Value → Me → Prop} (hy : plainName y.cls = true) (hlen : (lg_sl as).length ≤ maxL)
    (body : ∀ (p : Program) (e : Env) (s : State) (m : MethodId) (args : Array Value) (below : List Frame) (meth : Method) (c : Code) (ls : Array Slot), Inj8 L → CallFix p m c cc maxL s args qA y.cls → meth.sig.returnType = ret → meth.locks = false → Kn8 L s → Hd8 L s.heap s.heap σ [] → lv_has ls maxL (lv_args 0 as) →
      W p l e rm s m args below meth c s.heap [] 0 0 (MQ below (Qg post (bs8 L) (Aw8 L)) args s 0 0 (Aw8 L)) (F0 m 0 ls [])) : Mg8 l L y (Cond.code y cc maxL ret :: qA) rm as σ post := by
  intro hI
  refine Met.ofW (cc := cc) (maxL := maxL) (ret := ret) hy rfl ?_
  intro p e s m args below meth c s₁ B hml hv
  obtain ⟨rfl, hP, hK⟩ := hv
  have hts := atoms_spec (ws := Cond.code y cc maxL ret :: qA) B.pre
  have hl := lv_entry as (n := maxL) hlen
  rw [lg_entry_eq]
  exact body p e s m _ below meth c _ hI ⟨B.exec, B.bytes, hml, findClass_of_methodNamed B.named, fun w h => hts w (List.mem_cons_of_mem _ h)⟩ B.returns B.notSynchronized hK ⟨hP, va_S.rf⟩ hl
theorem q_V18 {v : Value} (S : CallFix p m c cc nL s args qA own) (hI : Inj8 L) (hK : Kn8 L s) (h : Hd8 L s.heap H σ locs) {y : MethodName} {maxL n : Nat} {bytes : ByteArray} {ret : Option FieldType} {rm : Room} (As : List Value) (hM : Mf8 l L y (Cond.code y bytes maxL ret :: qA) rm (.ref (ad L 0) :: As) σ (some v) σ')
    (w1 : Cond.methodLink own index y ∈ qA) (w2 : Cond.instanceMethod y ∈ qA) (w3 : Cond.selects RX8 y y ∈ qA) (w4 : Cond.initialized RX8 ∈ qA) (w5 : Cond.code y bytes maxL ret ∈ qA)
    (hd : ydV y RX8 n) (hn : As.length = n) (hR : rmFit rm R maxL cells slots) (hstk : st0 = As.reverse ++ .ref (ad L 0) :: rest) (hrest : (rest.map fun v => v.category).sum ≤ 8) (hsz : ls.size = nL) (hdg : decode cc pc = .ok (.invokevirtual index, 3))
    (kk : ∀ (H1 : Heap) (locs1 : List Loc), Hd8 L s.heap H1 σ' locs1 → W p l e R s m args below meth c H1 locs1 cells slots Q (F0 m (pc + 3) ls (v :: rest))) : W p l e R s m args below meth c H locs cells slots Q (F0 m pc ls st0) := by
  refine q_V8 S hI hK h hM w1 w2 w3 w4 w5 hd hn hR hstk hrest hsz hdg (fun r u H1 locs1 hp h1 => ?_)
  obtain ⟨rfl, rfl⟩ := hp
  exact kk H1 locs1 h1
theorem q_V08 (S : CallFix p m c cc nL s args qA own) (hI : Inj8 L) (hK : Kn8 L s) (h : Hd8 L s.heap H σ locs) {y : MethodName} {maxL n : Nat} {bytes : ByteArray} {ret : Option FieldType} {rm : Room} (As : List Value) (hM : Mf8 l L y (Cond.code y bytes maxL ret :: qA) rm (.ref (ad L 0) :: As) σ none σ')
    (w1 : Cond.methodLink own index y ∈ qA) (w2 : Cond.instanceMethod y ∈ qA) (w3 : Cond.selects RX8 y y ∈ qA) (w4 : Cond.initialized RX8 ∈ qA) (w5 : Cond.code y bytes maxL ret ∈ qA)
    (hd : ydV y RX8 n) (hn : As.length = n) (hR : rmFit rm R maxL cells slots) (hstk : st0 = As.reverse ++ .ref (ad L 0) :: rest) (hrest : (rest.map fun v => v.category).sum ≤ 8) (hsz : ls.size = nL) (hdg : decode cc pc = .ok (.invokevirtual index, 3))
    (kk : ∀ (H1 : Heap) (locs1 : List Loc), Hd8 L s.heap H1 σ' locs1 → W p l e R s m args below meth c H1 locs1 cells slots Q (F0 m (pc + 3) ls rest)) : W p l e R s m args below meth c H locs cells slots Q (F0 m pc ls st0) := by
  refine q_V8 S hI hK h hM w1 w2 w3 w4 w5 hd hn hR hstk hrest hsz hdg (fun r u H1 locs1 hp h1 => ?_)
  obtain ⟨rfl, rfl⟩ := hp
  exact kk H1 locs1 h1
theorem q_S18 {v : Value} (S : CallFix p m c cc nL s args qA own) (hI : Inj8 L) (hK : Kn8 L s) (h : Hd8 L s.heap H σ locs) {y : MethodName} {maxL n : Nat} {bytes : ByteArray} {ret : Option FieldType} {rm : Room} (As : List Value) (hM : Mf8 l L y (Cond.code y bytes maxL ret :: qA) rm As σ (some v) σ')
    (w1 : Cond.methodLink own index y ∈ qA) (w2 : Cond.static y ∈ qA) (w4 : Cond.initialized own ∈ qA) (w5 : Cond.code y bytes maxL ret ∈ qA)
    (hd : ydV y own n) (hn : As.length = n) (hR : rmFit rm R maxL cells slots) (hstk : st0 = As.reverse ++ rest) (hrest : (rest.map fun v => v.category).sum ≤ 8) (hsz : ls.size = nL) (hdg : decode cc pc = .ok (.invokestatic index, 3))
    (kk : ∀ (H1 : Heap) (locs1 : List Loc), Hd8 L s.heap H1 σ' locs1 → W p l e R s m args below meth c H1 locs1 cells slots Q (F0 m (pc + 3) ls (v :: rest))) : W p l e R s m args below meth c H locs cells slots Q (F0 m pc ls st0) := by
  refine q_S8 S hI hK h hM w1 w2 w4 w5 hd hn hR hstk hrest hsz hdg (fun r u H1 locs1 hp h1 => ?_)
  obtain ⟨rfl, rfl⟩ := hp
  exact kk H1 locs1 h1
theorem q_S08 (S : CallFix p m c cc nL s args qA own) (hI : Inj8 L) (hK : Kn8 L s) (h : Hd8 L s.heap H σ locs) {y : MethodName} {maxL n : Nat} {bytes : ByteArray} {ret : Option FieldType} {rm : Room} (As : List Value) (hM : Mf8 l L y (Cond.code y bytes maxL ret :: qA) rm As σ none σ')
    (w1 : Cond.methodLink own index y ∈ qA) (w2 : Cond.static y ∈ qA) (w4 : Cond.initialized own ∈ qA) (w5 : Cond.code y bytes maxL ret ∈ qA)
    (hd : ydV y own n) (hn : As.length = n) (hR : rmFit rm R maxL cells slots) (hstk : st0 = As.reverse ++ rest) (hrest : (rest.map fun v => v.category).sum ≤ 8) (hsz : ls.size = nL) (hdg : decode cc pc = .ok (.invokestatic index, 3))
    (kk : ∀ (H1 : Heap) (locs1 : List Loc), Hd8 L s.heap H1 σ' locs1 → W p l e R s m args below meth c H1 locs1 cells slots Q (F0 m (pc + 3) ls rest)) : W p l e R s m args below meth c H locs cells slots Q (F0 m pc ls st0) := by
  refine q_S8 S hI hK h hM w1 w2 w4 w5 hd hn hR hstk hrest hsz hdg (fun r u H1 locs1 hp h1 => ?_)
  obtain ⟨rfl, rfl⟩ := hp
  exact kk H1 locs1 h1
theorem Mf8.ofW {y : MethodName} {rm : Room} {maxL : Nat} {ret : Option FieldType} {as : List Value} {r : Option Value} (hy : plainName y.cls = true) (hlen : (lg_sl as).length ≤ maxL)
    (body : ∀ (p : Program) (e : Env) (s : State) (m : MethodId) (args : Array Value) (below : List Frame) (meth : Method) (c : Code) (ls : Array Slot) (post : Option Value → Me → Prop), post r σ' → Inj8 L → CallFix p m c cc maxL s args qA y.cls → meth.sig.returnType = ret → meth.locks = false → Kn8 L s → Hd8 L s.heap s.heap σ [] → lv_has ls maxL (lv_args 0 as) →
      W p l e rm s m args below meth c s.heap [] 0 0 (MQ below (Qg post (bs8 L) (Aw8 L)) args s 0 0 (Aw8 L)) (F0 m 0 ls [])) : Mf8 l L y (Cond.code y cc maxL ret :: qA) rm as σ r σ' :=
  Mg8.ofW hy hlen (fun p e s m args below meth c ls hI S hr hk hK h hl => body p e s m args below meth c ls _ ⟨rfl, rfl⟩ hI S hr hk hK h hl)
theorem Mr8_ofW {y : MethodName} {rm : Room} {maxL : Nat} {ret : Option FieldType} {as : List Value} {Post : Option Value → Me → Prop} (hy : plainName y.cls = true) (hlen : (lg_sl as).length ≤ maxL)
    (body : ∀ (p : Program) (e : Env) (s : State) (m : MethodId) (args : Array Value) (below : List Frame) (meth : Method) (c : Code) (ls : Array Slot) (post : Option Value → Me → Prop), (∀ r u, Post r u → post r u) → Inj8 L → CallFix p m c cc maxL s args qA y.cls → meth.sig.returnType = ret → meth.locks = false → Kn8 L s → Hd8 L s.heap s.heap σ [] → lv_has ls maxL (lv_args 0 as) →
      W p l e rm s m args below meth c s.heap [] 0 0 (MQ below (Qg post (bs8 L) (Aw8 L)) args s 0 0 (Aw8 L)) (F0 m 0 ls [])) : Mg8 l L y (Cond.code y cc maxL ret :: qA) rm as σ Post :=
  Mg8.ofW hy hlen (fun p e s m args below meth c ls hI S hr hk hK h hl => body p e s m args below meth c ls _ (fun _ _ h => h) hI S hr hk hK h hl)
/-- a virtual call with a known answer and a relation for an end -/
theorem q_VR8 {rv : Option Value} {Post : Me → Prop} (S : CallFix p m c cc nL s args qA own) (hI : Inj8 L) (hK : Kn8 L s) (h : Hd8 L s.heap H σ locs) {y : MethodName} {maxL n : Nat} {bytes : ByteArray} {ret : Option FieldType} {rm : Room} (As : List Value) (hM : Mg8 l L y (Cond.code y bytes maxL ret :: qA) rm (.ref (ad L 0) :: As) σ (fun r u => r = rv ∧ Post u))
    (w1 : Cond.methodLink own index y ∈ qA) (w2 : Cond.instanceMethod y ∈ qA) (w3 : Cond.selects RX8 y y ∈ qA) (w4 : Cond.initialized RX8 ∈ qA) (w5 : Cond.code y bytes maxL ret ∈ qA)
    (hd : ydV y RX8 n) (hn : As.length = n) (hR : rmFit rm R maxL cells slots) (hstk : st0 = As.reverse ++ .ref (ad L 0) :: rest) (hrest : (rest.map fun v => v.category).sum ≤ 8) (hsz : ls.size = nL) (hdg : decode cc pc = .ok (.invokevirtual index, 3))
    (kk : ∀ (u : Me) (H1 : Heap) (locs1 : List Loc), Post u → Hd8 L s.heap H1 u locs1 → W p l e R s m args below meth c H1 locs1 cells slots Q (F0 m (pc + 3) ls (rv.toList ++ rest))) : W p l e R s m args below meth c H locs cells slots Q (F0 m pc ls st0) := by
  refine q_V8 S hI hK h hM w1 w2 w3 w4 w5 hd hn hR hstk hrest hsz hdg (fun r u H1 locs1 hp h1 => ?_)
  obtain ⟨rfl, hp⟩ := hp
  exact kk u H1 locs1 hp h1
theorem fin_p8 {post : Option Value → Me → Prop} {r r' : Option Value} {σ σ' : Me} (h : post r' σ') (h1 : r = r') (h2 : σ = σ') : post r σ := h1 ▸ h2 ▸ h
end QM8

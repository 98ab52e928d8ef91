section QCALLS
variable {p : Program} {l : Launch} {e : Env} {R : Room} {s : State} {m : MethodId} {args : Array Value} {below : List Frame} {meth : Method} {c : Code} {H : Heap} {locs : List Loc} {cells slots : Nat} {Q : State → Prop}
variable {cc : ByteArray} {pc nL index : Nat} {own : String} {ls : Array Slot} {rest st0 : List Value} {L : Lay} {H0 : Heap} {σ : St} {k : Nat}
theorem va_callg {S : Type} {post : Option Value → S → Prop} {B : S → State → Prop} {a : Array Value} {A0 A1 : Nat → Prop} {mc ms : Nat} {free : Addr → Prop} (hr : va_Run p l e R s m args below meth c H locs cells slots mc ms (F0 m pc ls st0) rest (Qg post B A1 a) free) (hS : va_S A0 H0 H locs) (hA : ∀ q, q < H.size → A1 q → A0 q) (hf : ∀ q, free q → A0 q)
    (kk : ∀ (r : Option Value) (u : S) (t : State) (H1 : Heap) (locs1 : List Loc), t.heap = H1 → s.vm.Alike t.vm → post r u → B u t → H.size ≤ H1.size → (∀ q : Nat, q < H.size → ¬ A1 q → H1[q]? = H[q]?) → va_S A0 H0 H1 locs1 → W p l e R s m args below meth c H1 locs1 (cells + mc) (slots + ms) Q (F0 m (pc + 3) ls (r.toList ++ rest))) : W p l e R s m args below meth c H locs cells slots Q (F0 m pc ls st0) := by
  intro T hT X
  obtain ⟨v, st₀, t, T', L, h0, X', hL, e1, e2, ⟨⟨r, u, hv, hp, hb⟩, hz, hk⟩, st⟩ := hr T hT X
  cases hv
  rw [h0] at hz hk
  obtain ⟨t2, a1, b1⟩ := kk v u t T'.heap (locs ++ L) e1.symm (by rw [← e2]; exact X'.warmed.alike) hp hb (by rw [e1]; exact hz) (fun q h1 h2 => by rw [e1]; exact hk q h1 h2)
    ⟨Nat.le_trans hS.1 (by rw [e1]; exact hz), fun q h1 h2 => by rw [e1, hk q (Nat.lt_of_lt_of_le h1 hS.1) (fun z => h2 (hA q (Nat.lt_of_lt_of_le h1 hS.1) z))]; exact hS.2.1 q h1 h2, fun q hq => by
      rcases List.mem_append.mp hq with h | h
      · exact hS.2.2 q h
      · exact hf _ (hL q h)⟩ T' rfl X'
  exact ⟨t2, st t2 a1, b1⟩
theorem good_tail {ws : List Cond} (hw : ∀ w ∈ ws, w ∈ qA) : GoodIn qA (ws ++ qA) := fun w h => by
  have hm : w ∈ qA := (List.mem_append.mp h).elim (hw w) id
  exact ⟨hm, good_of_word (qA_good hm)⟩
theorem good_V {C : String} {y : MethodName} {bytes : ByteArray} {n : Nat} {ret : Option FieldType} (w1 : Cond.methodLink own index y ∈ qA) (w2 : Cond.instanceMethod y ∈ qA) (w3 : Cond.selects C y y ∈ qA) (w4 : Cond.initialized C ∈ qA) (w5 : Cond.code y bytes n ret ∈ qA) : GoodIn qA (wsV own index C y (Cond.code y bytes n ret :: qA)) := by
  have := good_tail (ws := [.methodLink own index y, .instanceMethod y, .selects C y y, .initialized C, .code y bytes n ret]) (fun w h => by
    simp only [List.mem_cons, List.not_mem_nil, or_false] at h
    rcases h with rfl | rfl | rfl | rfl | rfl <;> assumption)
  exact this
theorem good_S {y : MethodName} {bytes : ByteArray} {n : Nat} {ret : Option FieldType} (w1 : Cond.methodLink own index y ∈ qA) (w2 : Cond.static y ∈ qA) (w4 : Cond.initialized own ∈ qA) (w5 : Cond.code y bytes n ret ∈ qA) : GoodIn qA (wsS own index y (Cond.code y bytes n ret :: qA)) := by
  have := good_tail (ws := [.methodLink own index y, .static y, .initialized own, .code y bytes n ret]) (fun w h => by
    simp only [List.mem_cons, List.not_mem_nil, or_false] at h
    rcases h with rfl | rfl | rfl | rfl <;> assumption)
  exact this
theorem good_C {y : MethodName} {bytes : ByteArray} {n : Nat} {ret : Option FieldType} (w5 : Cond.code y bytes n ret ∈ qA) : GoodIn qA (Cond.code y bytes n ret :: qA) := good_tail (ws := [.code y bytes n ret]) (fun w h => by
    simp only [List.mem_cons, List.not_mem_nil, or_false] at h
    rcases h with rfl; assumption)
/-- what a call needs of the machine's room -/
abbrev rmFit (rm R : Room) (maxL cells slots : Nat) : Prop := (rm.cells = 0 ∧ rm.slots = 0) ∧ (rm.frames + 1 ≤ R.frames ∧ 8 + (maxL + 11) + rm.locals ≤ R.locals) ∧ cells + 0 ≤ R.cells ∧ slots + 0 ≤ R.slots
/-- a virtual call of a method of a cell of the world -/
theorem q_V {post : Option Value → St → Prop} (S : CallFix p m c cc nL s args qA own) (hI : Inj L) (hK : Kn L s) (h : Hd L s.heap H σ locs) {y : MethodName} {C : String} {T : u_T} {N ci maxL n : Nat} {bytes : ByteArray} {ret : Option FieldType} {rm : Room} {As : List Value} (hM : Mg l L y (Cond.code y bytes maxL ret :: qA) rm (.ref (ad L k) :: As) σ post)
    (hc : vwCl[ci]? = some (C, T, N)) {fs : List Value} (hcnt : ∀ J, cnt L σ J k = .inr (ci, fs)) (hk : k < 245) (w1 : Cond.methodLink own index y ∈ qA) (w2 : Cond.instanceMethod y ∈ qA) (w3 : Cond.selects C y y ∈ qA) (w4 : Cond.initialized C ∈ qA) (w5 : Cond.code y bytes maxL ret ∈ qA)
    (hd : y.cls = C ∧ y.cls ≠ "java/lang/invoke/MethodHandle" ∧ y.cls ≠ "java/lang/invoke/VarHandle" ∧ (parseMethodDescriptor y.desc).map (fun d => d.parameters.length) = some n) (hn : As.length = n) (hR : rmFit rm R maxL cells slots) (hstk : st0 = As.reverse ++ .ref (ad L k) :: rest) (hrest : (rest.map fun v => v.category).sum ≤ 8) (hsz : ls.size = nL) (hdg : decode cc pc = .ok (.invokevirtual index, 3))
    (kk : ∀ (r : Option Value) (u : St) (H1 : Heap) (locs1 : List Loc), post r u → Hd L s.heap H1 u locs1 → W p l e R s m args below meth c H1 locs1 cells slots Q (F0 m (pc + 3) ls (r.toList ++ rest))) : W p l e R s m args below meth c H locs cells slots Q (F0 m pc ls st0) := by
  obtain ⟨hP, hS⟩ := h
  obtain ⟨-, J, hPJ⟩ := id hP
  refine va_callg (va_runV (As := As) (rest := rest) S (hM hI) (cwV n S.2.2.2.2 (good_V w1 w2 w3 w4 w5) rfl hR.1.1 hR.1.2 hd hR.2.1) ⟨blind_bs _ L σ, va_recv hK.1 hPJ hc (by rw [wld_at hk, hcnt J]), fun U hU hW => ⟨rfl, by rw [hU]; exact hP, hK.warm hW⟩⟩ rfl hn hsz hstk (lv_room hrest) hdg hR.2.2) hS (fun q _ h => h) (fun q h => h) (fun r u t H1 locs1 ht _ hp hB _ _ hS1 => kk r u H1 locs1 hp ⟨by rw [← ht]; exact hB.1, hS1⟩)
/-- a call of a static method of the same class -/
theorem q_S {post : Option Value → St → Prop} (S : CallFix p m c cc nL s args qA own) (hI : Inj L) (hK : Kn L s) (h : Hd L s.heap H σ locs) {y : MethodName} {maxL n : Nat} {bytes : ByteArray} {ret : Option FieldType} {rm : Room} {As : List Value} (hM : Mg l L y (Cond.code y bytes maxL ret :: qA) rm As σ post)
    (w1 : Cond.methodLink own index y ∈ qA) (w2 : Cond.static y ∈ qA) (w4 : Cond.initialized own ∈ qA) (w5 : Cond.code y bytes maxL ret ∈ qA)
    (hd : y.cls = own ∧ y.cls ≠ "java/lang/invoke/MethodHandle" ∧ y.cls ≠ "java/lang/invoke/VarHandle" ∧ (parseMethodDescriptor y.desc).map (fun d => d.parameters.length) = some n) (hn : As.length = n) (hR : rmFit rm R maxL cells slots) (hstk : st0 = As.reverse ++ rest) (hrest : (rest.map fun v => v.category).sum ≤ 8) (hsz : ls.size = nL) (hdg : decode cc pc = .ok (.invokestatic index, 3))
    (kk : ∀ (r : Option Value) (u : St) (H1 : Heap) (locs1 : List Loc), post r u → Hd L s.heap H1 u locs1 → W p l e R s m args below meth c H1 locs1 cells slots Q (F0 m (pc + 3) ls (r.toList ++ rest))) : W p l e R s m args below meth c H locs cells slots Q (F0 m pc ls st0) := by
  obtain ⟨hP, hS⟩ := h
  refine va_callg (va_runS (As := As) (rest := rest) S (hM hI) (cwS n S.2.2.2.2 (good_S w1 w2 w4 w5) rfl hR.1.1 hR.1.2 hd hR.2.1) ⟨blind_bs _ L σ, fun U hU hW => ⟨rfl, by rw [hU]; exact hP, hK.warm hW⟩⟩ rfl hn hsz hstk (lv_room hrest) hdg hR.2.2) hS (fun q _ h => h) (fun q h => h) (fun r u t H1 locs1 ht _ hp hB _ _ hS1 => kk r u H1 locs1 hp ⟨by rw [← ht]; exact hB.1, hS1⟩)
/-- a call of a private static method of a nest mate -/
theorem q_SN {post : Option Value → St → Prop} (S : CallFix p m c cc nL s args qA own) (hI : Inj L) (hK : Kn L s) (h : Hd L s.heap H σ locs) {y : MethodName} {host : String} {maxL n : Nat} {bytes : ByteArray} {ret : Option FieldType} {rm : Room} {As : List Value} (hM : Mg l L y (Cond.code y bytes maxL ret :: qA) rm As σ post)
    (w1 : va_Nw (.methodLinkNest own index y host) s) (w2 : Cond.static y ∈ qA) (w4 : Cond.initialized y.cls ∈ qA) (w5 : Cond.code y bytes maxL ret ∈ qA)
    (hd : y.cls ≠ "java/lang/invoke/MethodHandle" ∧ y.cls ≠ "java/lang/invoke/VarHandle" ∧ (parseMethodDescriptor y.desc).map (fun d => d.parameters.length) = some n) (hn : As.length = n) (hR : rmFit rm R maxL cells slots) (hstk : st0 = As.reverse ++ rest) (hrest : (rest.map fun v => v.category).sum ≤ 8) (hsz : ls.size = nL) (hdg : decode cc pc = .ok (.invokestatic index, 3))
    (kk : ∀ (r : Option Value) (u : St) (H1 : Heap) (locs1 : List Loc), post r u → Hd L s.heap H1 u locs1 → W p l e R s m args below meth c H1 locs1 cells slots Q (F0 m (pc + 3) ls (r.toList ++ rest))) : W p l e R s m args below meth c H locs cells slots Q (F0 m pc ls st0) := by
  obtain ⟨hP, hS⟩ := h
  refine va_callg (va_runSN (As := As) (rest := rest) S (hM hI) ⟨va_cnB n S.2.2.2.2 (good_C w5) rfl hR.1.1 hR.1.2 w1 (S.2.2.2.2 _ w4) hd hR.2.1, S.2.2.2.2 _ w2, trivial⟩ ⟨blind_bs _ L σ, fun U hU hW => ⟨rfl, by rw [hU]; exact hP, hK.warm hW⟩⟩ rfl hn hsz hstk (lv_room hrest) hdg hR.2.2) hS (fun q _ h => h) (fun q h => h) (fun r u t H1 locs1 ht _ hp hB _ _ hS1 => kk r u H1 locs1 hp ⟨by rw [← ht]; exact hB.1, hS1⟩)
/-- the ends -/
theorem e_i {post : Option Value → St → Prop} (S : CallFix p m c cc nL s args qA own) (hK : Kn L s) (h : Hd L s.heap H σ locs) (hr : meth.sig.returnType = some .int) (hlocks : meth.locks = false) {v : Int32} (hd : decode cc pc = .ok (.ireturn, 1)) (hp : post (some (.int v)) σ) : W p l e R s m args below meth c H locs cells slots (MQ below (Qg post (bs L) (Aw L)) args s cells slots (Aw L)) (F0 m pc ls [.int v]) :=
  W.iret S.1 S.2.1 hr (fun t ht hW => ⟨⟨_, σ, rfl, hp, by rw [bs, ht]; exact ⟨h.1, hK.warm hW⟩⟩, h.2.F ht⟩) h.2.2.2 hd hlocks
theorem e_z {post : Option Value → St → Prop} (S : CallFix p m c cc nL s args qA own) (hK : Kn L s) (h : Hd L s.heap H σ locs) (hr : meth.sig.returnType = some .boolean) (hlocks : meth.locks = false) {v : Int32} (hv : v = 0 ∨ v = 1) (hd : decode cc pc = .ok (.ireturn, 1)) (hp : post (some (.int v)) σ) : W p l e R s m args below meth c H locs cells slots (MQ below (Qg post (bs L) (Aw L)) args s cells slots (Aw L)) (F0 m pc ls [.int v]) :=
  W.zret (ty := .boolean) S.1 S.2.1 hr (by rcases hv with rfl | rfl <;> rfl) (fun t ht hW => ⟨⟨_, σ, rfl, hp, by rw [bs, ht]; exact ⟨h.1, hK.warm hW⟩⟩, h.2.F ht⟩) h.2.2.2 hd hlocks
theorem e_v {post : Option Value → St → Prop} (S : CallFix p m c cc nL s args qA own) (hK : Kn L s) (h : Hd L s.heap H σ locs) (hr : meth.sig.returnType = none) (hlocks : meth.locks = false) (hd : decode cc pc = .ok (.return_, 1)) (hp : post none σ) : W p l e R s m args below meth c H locs cells slots (MQ below (Qg post (bs L) (Aw L)) args s cells slots (Aw L)) (F0 m pc ls []) :=
  W.vret S.1 S.2.1 hr (fun t ht hW => ⟨⟨_, σ, rfl, hp, by rw [bs, ht]; exact ⟨h.1, hK.warm hW⟩⟩, h.2.F ht⟩) h.2.2.2 hd hlocks
theorem e_a {post : Option Value → St → Prop} {n : String} (S : CallFix p m c cc nL s args qA own) (hK : Kn L s) (h : Hd L s.heap H σ locs) (hr : meth.sig.returnType = some (.object n)) (hlocks : meth.locks = false) {v : Value} (hv : v = .null ∨ ∃ a, v = .ref a) (hd : decode cc pc = .ok (.areturn, 1)) (hp : post (some v) σ) : W p l e R s m args below meth c H locs cells slots (MQ below (Qg post (bs L) (Aw L)) args s cells slots (Aw L)) (F0 m pc ls [v]) :=
  W.aret S.1 S.2.1 hr (Or.inl ⟨n, rfl⟩) hv (fun t ht hW => ⟨⟨_, σ, rfl, hp, by rw [bs, ht]; exact ⟨h.1, hK.warm hW⟩⟩, h.2.F ht⟩) h.2.2.2 hd hlocks
/-- a method's contract out of the walk of its body -/
theorem Mg.ofW {y : MethodName} {rm : Room} {maxL : Nat} {ret : Option FieldType} {as : List Value} {post : Option Value → St → Prop} (hy : plainName y.cls = true) (hlen : (lg_sl as).length ≤ maxL)
    (body : ∀ (p : Program) (e : Env) (s : State) (m : MethodId) (args : Array Value) (below : List Frame) (meth : Method) (c : Code) (ls : Array Slot), Inj L → CallFix p m c cc maxL s args qA y.cls → meth.sig.returnType = ret → meth.locks = false → Kn L s → Hd L s.heap s.heap σ [] → lv_has ls maxL (lv_args 0 as) →
      W p l e rm s m args below meth c s.heap [] 0 0 (MQ below (Qg post (bs L) (Aw L)) args s 0 0 (Aw L)) (F0 m 0 ls [])) : Mg l L y (Cond.code y cc maxL ret :: qA) rm as σ post := by
  intro hI
  refine Met.ofW (cc := cc) (maxL := maxL) (ret := ret) hy rfl ?_
  intro p e s m args below meth c s₁ B hml hv
  obtain ⟨rfl, hP, hK⟩ := hv
  have hts := atoms_spec (ws := Cond.code y cc maxL ret :: qA) B.pre
  have hl := lv_entry as (n := maxL) hlen
  rw [lg_entry_eq]
  exact body p e s m _ below meth c _ hI ⟨B.exec, B.bytes, hml, findClass_of_methodNamed B.named, fun w h => hts w (List.mem_cons_of_mem _ h)⟩ B.returns B.notSynchronized hK ⟨hP, va_S.rf⟩ hl
end QCALLS

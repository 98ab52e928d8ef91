theorem drop_getD {α : Type} {d : α} {l : List α} {i : Nat} (h : i < l.length) : l.drop i = l.getD i d :: l.drop (i + 1) := by
  rw [List.drop_eq_getElem_cons h, List.getD_eq_getElem?_getD, List.getElem?_eq_getElem h]
  rfl
theorem getD_set_self {α : Type} {d x : α} {l : List α} {i : Nat} (h : i < l.length) : (l.set i x).getD i d = x := by
  rw [List.getD_eq_getElem?_getD, List.getElem?_set_self h]
  rfl
theorem getD_set_ne {α : Type} {d x : α} {l : List α} {i j : Nat} (h : i ≠ j) : (l.set i x).getD j d = l.getD j d := by
  rw [List.getD_eq_getElem?_getD, List.getElem?_set_ne h, List.getD_eq_getElem?_getD]
theorem take_set_le {α : Type} {x : α} {l : List α} {i n : Nat} (h : n ≤ i) : (l.set i x).take n = l.take n := by
  apply List.ext_getElem?
  intro j
  by_cases hj : j < n
  · rw [List.getElem?_take_of_lt hj, List.getElem?_take_of_lt hj, List.getElem?_set_ne (by omega)]
  · rw [List.getElem?_eq_none_iff.mpr (by rw [List.length_take]; omega), List.getElem?_eq_none_iff.mpr (by rw [List.length_take]; omega)]
theorem drop_set_lt {α : Type} {x : α} {l : List α} {i n : Nat} (h : i < n) : (l.set i x).drop n = l.drop n := by
  apply List.ext_getElem?
  intro j
  rw [List.getElem?_drop, List.getElem?_drop, List.getElem?_set_ne (by omega)]
theorem mg_unite {f tot a : Int32} {o i : Nat} {B : List Hp} (ho : o ≤ i) (hi : i + 1 < B.length) (hw : wiB (h_w (B.getD o hd0) + h_w (B.getD (i + 1) hd0)) a tot f = true) :
    B.take o ++ mg f tot a (B.getD o hd0) (B.drop (i + 1)) = (B.set o (unI (B.getD o hd0) (B.getD (i + 1) hd0))).take o ++ mg f tot a ((B.set o (unI (B.getD o hd0) (B.getD (i + 1) hd0))).getD o hd0) ((B.set o (unI (B.getD o hd0) (B.getD (i + 1) hd0))).drop (i + 1 + 1)) := by
  rw [take_set_le (Nat.le_refl _), getD_set_self (by omega), drop_set_lt (by omega), drop_getD (d := hd0) hi, mg, if_pos hw]
theorem mg_next {f tot a : Int32} {o i : Nat} {B : List Hp} (ho : o ≤ i) (hi : i + 1 < B.length) (hw : ¬ wiB (h_w (B.getD o hd0) + h_w (B.getD (i + 1) hd0)) a tot f = true) :
    B.take o ++ mg f tot a (B.getD o hd0) (B.drop (i + 1)) = (swp hd0 B (o + 1) (i + 1)).take (o + 1) ++ mg f tot (a + h_w (B.getD o hd0)) ((swp hd0 B (o + 1) (i + 1)).getD (o + 1) hd0) ((swp hd0 B (o + 1) (i + 1)).drop (i + 1 + 1)) := by
  have e1 : (swp hd0 B (o + 1) (i + 1)).take (o + 1) = B.take (o + 1) := by
    rw [swp, take_set_le (by omega), take_set_le (Nat.le_refl _)]
  have e2 : (swp hd0 B (o + 1) (i + 1)).getD (o + 1) hd0 = B.getD (i + 1) hd0 := by
    rw [swp]
    by_cases q : o = i
    · subst q
      rw [getD_set_self (by rw [List.length_set]; omega)]
    · rw [getD_set_ne (by omega), getD_set_self (by omega)]
  have e3 : (swp hd0 B (o + 1) (i + 1)).drop (i + 1 + 1) = B.drop (i + 1 + 1) := by
    rw [swp, drop_set_lt (by omega), drop_set_lt (by omega)]
  rw [e1, e2, e3, drop_getD (d := hd0) hi, mg, if_neg hw, ← take_snoc (d := hd0) (by omega), List.append_assoc]
  rfl
theorem mg_start {f : Int32} {A : List Hp} (h : A.length ≠ 0) : ptog f A = A.take 0 ++ mg f (wTot A) 0 (A.getD 0 hd0) (A.drop 1) := by
  cases A with
  | nil => exact absurd rfl h
  | cons x r => rfl
theorem mg_end {f tot a : Int32} {o i : Nat} {B : List Hp} (ho : o ≤ i) (hi : i + 1 = B.length) : B.take o ++ mg f tot a (B.getD o hd0) (B.drop (i + 1)) = B.take (o + 1) := by
  rw [List.drop_of_length_le (by omega), mg, take_snoc (by omega)]
theorem mg_fin {f a : Int32} {o i : Nat} {A B : List Hp} (ho : o ≤ i) (hB : B.length = A.length) (hi : i + 1 ≤ A.length ∨ i = 0) (hc : A.length ≤ i + 1) (hr : A.length = 0 ∨ ptog f A = B.take o ++ mg f (wTot A) a (B.getD o hd0) (B.drop (i + 1))) : ptog f A = B.take (o + 1) := by
  rcases Nat.eq_zero_or_pos A.length with q | q
  · rw [List.length_eq_zero_iff.mp q, List.length_eq_zero_iff.mp (hB.trans q)]
    rfl
  · rcases hr with z | z
    · omega
    · rw [z]
      exact mg_end ho (by omega)
section QJ
variable {p : Program} {l : Launch} {e : Env} {R : Room} {s : State} {m : MethodId} {args : Array Value} {below : List Frame} {meth : Method} {c : Code} {H : Heap} {locs : List Loc} {cells slots : Nat} {Q : State → Prop}
variable {cc : ByteArray} {pc tgt nL index : Nat} {off : Int} {own : String} {ls : Array Slot} {rest st0 : List Value} {L : Lay} {H0 : Heap} {σ σ' : St} {k : Nat}
theorem good_J {y : MethodName} {bytes : ByteArray} {n : Nat} {ret : Option FieldType} (w1 : Cond.methodLink own index y ∈ qA) (w2 : Cond.static y ∈ qA) (w4 : Cond.initialized y.cls ∈ qA) (w5 : Cond.code y bytes n ret ∈ qA) : GoodIn qA (va_wsS own index y (Cond.code y bytes n ret :: qA)) := by
  have := good_tail (ws := [.methodLink own index y, .static y, .initialized y.cls, .code y bytes n ret]) (fun w h => by
    simp only [List.mem_cons, List.not_mem_nil, or_false] at h
    rcases h with rfl | rfl | rfl | rfl <;> assumption)
  exact this
/-- a call of a static method of another class, with a known answer -/
theorem q_J1 {v : Value} (S : CallFix p m c cc nL s args qA own) (hI : Inj L) (hK : Kn L s) (h : Hd L s.heap H σ locs) {y : MethodName} {maxL n : Nat} {bytes : ByteArray} {ret : Option FieldType} {rm : Room} (As : List Value) (hM : Mf l L y (Cond.code y bytes maxL ret :: qA) rm As σ (some v) σ')
    (w1 : Cond.methodLink own index y ∈ qA) (w2 : Cond.static y ∈ qA) (w4 : Cond.initialized y.cls ∈ qA) (w5 : Cond.code y bytes maxL ret ∈ qA)
    (hd : ydV y y.cls n) (hn : As.length = n) (hR : rmFit rm R maxL cells slots) (hstk : st0 = As.reverse ++ rest) (hrest : (rest.map fun v => v.category).sum ≤ 8) (hsz : ls.size = nL) (hdg : decode cc pc = .ok (.invokestatic index, 3))
    (kk : ∀ (H1 : Heap) (locs1 : List Loc), Hd L s.heap H1 σ' locs1 → W p l e R s m args below meth c H1 locs1 cells slots Q (F0 m (pc + 3) ls (v :: rest))) : W p l e R s m args below meth c H locs cells slots Q (F0 m pc ls st0) := by
  obtain ⟨hP, hS⟩ := h
  refine va_callg (va_runS (As := As) (rest := rest) S (hM hI) (va_cwS n S.2.2.2.2 (good_J w1 w2 w4 w5) rfl hR.1.1 hR.1.2 hd.2 hR.2.1) ⟨blind_bs _ L σ, fun U hU hW => ⟨rfl, by rw [hU]; exact hP, hK.warm hW⟩⟩ rfl hn hsz hstk (lv_room hrest) hdg hR.2.2) hS (fun q _ h => h) (fun q h => h) (fun r u t H1 locs1 ht _ hp hB _ _ hS1 => ?_)
  obtain ⟨rfl, rfl⟩ := hp
  exact kk H1 locs1 ⟨by rw [← ht]; exact hB.1, hS1⟩
theorem q_SN1 {v : Value} (S : CallFix p m c cc nL s args qA own) (hI : Inj L) (hK : Kn L s) (h : Hd L s.heap H σ locs) {y : MethodName} {host : String} {maxL n : Nat} {bytes : ByteArray} {ret : Option FieldType} {rm : Room} (As : List Value) (hM : Mf l L y (Cond.code y bytes maxL ret :: qA) rm As σ (some v) σ')
    (w1 : va_Nw (.methodLinkNest own index y host) s) (w2 : Cond.static y ∈ qA) (w4 : Cond.initialized y.cls ∈ qA) (w5 : Cond.code y bytes maxL ret ∈ qA)
    (hd : ydV y y.cls n) (hn : As.length = n) (hR : rmFit rm R maxL cells slots) (hstk : st0 = As.reverse ++ rest) (hrest : (rest.map fun v => v.category).sum ≤ 8) (hsz : ls.size = nL) (hdg : decode cc pc = .ok (.invokestatic index, 3))
    (kk : ∀ (H1 : Heap) (locs1 : List Loc), Hd L s.heap H1 σ' locs1 → W p l e R s m args below meth c H1 locs1 cells slots Q (F0 m (pc + 3) ls (v :: rest))) : W p l e R s m args below meth c H locs cells slots Q (F0 m pc ls st0) := by
  refine q_SN S hI hK h hM w1 w2 w4 w5 hd.2 hn hR hstk hrest hsz hdg (fun r u H1 locs1 hp h1 => ?_)
  obtain ⟨rfl, rfl⟩ := hp
  exact kk H1 locs1 h1
theorem e_l {post : Option Value → St → Prop} (S : CallFix p m c cc nL s args qA own) (hK : Kn L s) (h : Hd L s.heap H σ locs) (hr : meth.sig.returnType = some .long) (hlocks : meth.locks = false) {v : Int64} (hd : decode cc pc = .ok (.lreturn, 1)) (hp : post (some (.long v)) σ) : W p l e R s m args below meth c H locs cells slots (MQ below (Qg post (bs L) (Aw L)) args s cells slots (Aw L)) (F0 m pc ls [.long v]) :=
  W.lret S.1 S.2.1 hr (fun t ht hW => ⟨⟨_, σ, rfl, hp, by rw [bs, ht]; exact ⟨h.1, hK.warm hW⟩⟩, h.2.F ht⟩) h.2.2.2 hd hlocks
theorem e_f {post : Option Value → St → Prop} (S : CallFix p m c cc nL s args qA own) (hK : Kn L s) (h : Hd L s.heap H σ locs) (hr : meth.sig.returnType = some .float) (hlocks : meth.locks = false) {v : UInt32} (hd : decode cc pc = .ok (.freturn, 1)) (hp : post (some (.float v)) σ) : W p l e R s m args below meth c H locs cells slots (MQ below (Qg post (bs L) (Aw L)) args s cells slots (Aw L)) (F0 m pc ls [.float v]) :=
  W.fret S.1 S.2.1 hr (fun t ht hW => ⟨⟨_, σ, rfl, hp, by rw [bs, ht]; exact ⟨h.1, hK.warm hW⟩⟩, h.2.F ht⟩) h.2.2.2 hd hlocks
theorem lc_eq (hx : p.tables.exec = Jvm.exec) (hb : c.code = cc) {x y : Int64} (hd : decode cc pc = .ok (.ifCond .eq off, 3)) (ht : (pc : Int) + off = (tgt : Int)) (kt : x = y → W p l e R s m args below meth c H locs cells slots Q (F0 m tgt ls rest)) (kf : x ≠ y → W p l e R s m args below meth c H locs cells slots Q (F0 m (pc + 3) ls rest)) : W p l e R s m args below meth c H locs cells slots Q (F0 m pc ls (.int (lg_cmp x y) :: rest)) :=
  lv_if_eq hx hb hd ht (fun h => kt ((lg_cmp_eq x y).mp h)) (fun h => kf (fun q => h ((lg_cmp_eq x y).mpr q)))
theorem lc_ne (hx : p.tables.exec = Jvm.exec) (hb : c.code = cc) {x y : Int64} (hd : decode cc pc = .ok (.ifCond .ne off, 3)) (ht : (pc : Int) + off = (tgt : Int)) (kt : x ≠ y → W p l e R s m args below meth c H locs cells slots Q (F0 m tgt ls rest)) (kf : x = y → W p l e R s m args below meth c H locs cells slots Q (F0 m (pc + 3) ls rest)) : W p l e R s m args below meth c H locs cells slots Q (F0 m pc ls (.int (lg_cmp x y) :: rest)) :=
  lv_if_ne hx hb hd ht (fun h => kt (fun q => h ((lg_cmp_eq x y).mpr q))) (fun h => kf ((lg_cmp_eq x y).mp h))
/-- a method that the machine runs as bytecode on every platform, though its class has others that it doesn't -/
theorem Met.ofWF {y : MethodName} {ws ws' : List Cond} {rm : Room} {Pc : Array Value → State → Prop} {Qc : Array Value → State → Outcome → State → Prop} {mc ms : Nat} {free : Addr → Prop} {cc : ByteArray} {maxL : Nat} {ret : Option FieldType}
    (hy : plainFor y = true) (hw : ws = Cond.code y cc maxL ret :: ws')
    (body : ∀ (p : Program) (e : Env) (s : State) (m : MethodId) (args : Array Value) (below : List Frame) (meth : Method) (c : Code) (s₁ : State), BodyLoose p l y (headSpec ws rm) cc maxL ret e s m args below meth c s₁ → c.maxLocals = maxL → Pc args s →
      W p l e (headSpec ws rm).room s m args below meth c s.heap [] 0 0 (MQ below Qc args s mc ms free) (entryFrame m args maxL)) : Met l y ws rm Pc Qc mc ms free := by
  refine MetFree.of_bodySF (code := cc) (maxLocals := maxL) (ret := ret) hy ?_ ?_
  · intro args s m h hn
    obtain ⟨meth, c, h1, h2, h3, h4, h5, h6, -, -⟩ := Cond.code_spec hn (atoms_spec (ws := ws) h _ (by rw [hw]; exact List.mem_cons_self))
    exact ⟨meth, c, h1, h2, h3, h4, h5, h6⟩
  · intro p e s m args below meth c s₁ B hml hP _
    have hh0 : s₁.heap = s.heap := by rw [B.state]; rfl
    obtain ⟨t, a1, o, b1, b2, b3⟩ := body p e s m args below meth c s₁ B hml hP s₁ hh0 (Stand.of_body B)
    exact ⟨t, o, a1, b1, b2, ⟨b3.1, b3.2⟩⟩
theorem Mf.ofWF {y : MethodName} {rm : Room} {maxL : Nat} {ret : Option FieldType} {as : List Value} {r : Option Value} (hy : plainFor y = true) (hlen : (lg_sl as).length ≤ maxL)
    (body : ∀ (p : Program) (e : Env) (s : State) (m : MethodId) (args : Array Value) (below : List Frame) (meth : Method) (c : Code) (ls : Array Slot) (post : Option Value → St → Prop), post r σ' → Inj L → CallFix p m c cc maxL s args qA y.cls → meth.sig.returnType = ret → meth.locks = false → Kn L s → Hd L s.heap s.heap σ [] → lv_has ls maxL (lv_args 0 as) →
      W p l e rm s m args below meth c s.heap [] 0 0 (MQ below (Qg post (bs L) (Aw L)) args s 0 0 (Aw L)) (F0 m 0 ls [])) : Mf l L y (Cond.code y cc maxL ret :: qA) rm as σ r σ' := by
  intro hI
  refine Met.ofWF (cc := cc) (maxL := maxL) (ret := ret) hy rfl ?_
  intro p e s m args below meth c s₁ B hml hv
  obtain ⟨rfl, hP, hK⟩ := hv
  have hts := atoms_spec (ws := Cond.code y cc maxL ret :: qA) B.pre
  have hl := lv_entry as (n := maxL) hlen
  rw [lg_entry_eq]
  exact body p e s m _ below meth c _ _ ⟨rfl, rfl⟩ hI ⟨B.exec, B.bytes, hml, findClass_of_methodNamed B.named, fun w h => hts w (List.mem_cons_of_mem _ h)⟩ B.returns B.notSynchronized hK ⟨hP, va_S.rf⟩ hl
end QJ
def pw : Nat → Nat
  | 0 => 0
  | j + 1 => 2 ^ j
theorem pw_half : ∀ j, 2 ^ j / 2 = pw j
  | 0 => rfl
  | j + 1 => by rw [Nat.pow_succ, Nat.mul_div_cancel _ (by omega)]; rfl
theorem pw_le : ∀ j, j < 10 → 2 ^ j ≤ 512 := by decide

section QBR
variable {p : Program} {l : Launch} {e : Env} {R : Room} {s : State} {m : MethodId} {args : Array Value} {below : List Frame} {meth : Method} {c : Code} {H : Heap} {locs : List Loc} {cells slots : Nat} {Q : State → Prop}
variable {cc : ByteArray} {pc tgt a b : Nat} {off : Int} {ls : Array Slot} {rest : List Value}
theorem b_icmp_lt (hx : p.tables.exec = Jvm.exec) (hb : c.code = cc) (hd : decode cc pc = .ok (.if_icmp .lt off, 3)) (ht : (pc : Int) + off = (tgt : Int)) (ha : a < 2 ^ 31) (hbb : b < 2 ^ 31) (kt : a < b → W p l e R s m args below meth c H locs cells slots Q (F0 m tgt ls rest)) (kf : b ≤ a → W p l e R s m args below meth c H locs cells slots Q (F0 m (pc + 3) ls rest)) : W p l e R s m args below meth c H locs cells slots Q (F0 m pc ls (.int (nI b) :: .int (nI a) :: rest)) :=
  lv_icmp_lt hx hb hd ht (fun h => kt ((nI_ltI ha hbb).mp h)) (fun h => kf (Nat.le_of_not_lt fun q => h ((nI_ltI ha hbb).mpr q)))
theorem b_icmp_ge (hx : p.tables.exec = Jvm.exec) (hb : c.code = cc) (hd : decode cc pc = .ok (.if_icmp .ge off, 3)) (ht : (pc : Int) + off = (tgt : Int)) (ha : a < 2 ^ 31) (hbb : b < 2 ^ 31) (kt : b ≤ a → W p l e R s m args below meth c H locs cells slots Q (F0 m tgt ls rest)) (kf : a < b → W p l e R s m args below meth c H locs cells slots Q (F0 m (pc + 3) ls rest)) : W p l e R s m args below meth c H locs cells slots Q (F0 m pc ls (.int (nI b) :: .int (nI a) :: rest)) :=
  lv_icmp_ge hx hb hd ht (fun h => kt ((nI_leI hbb ha).mp h)) (fun h => kf (Nat.lt_of_not_le fun q => h ((nI_leI hbb ha).mpr q)))
theorem b_icmp_gt (hx : p.tables.exec = Jvm.exec) (hb : c.code = cc) (hd : decode cc pc = .ok (.if_icmp .gt off, 3)) (ht : (pc : Int) + off = (tgt : Int)) (ha : a < 2 ^ 31) (hbb : b < 2 ^ 31) (kt : b < a → W p l e R s m args below meth c H locs cells slots Q (F0 m tgt ls rest)) (kf : a ≤ b → W p l e R s m args below meth c H locs cells slots Q (F0 m (pc + 3) ls rest)) : W p l e R s m args below meth c H locs cells slots Q (F0 m pc ls (.int (nI b) :: .int (nI a) :: rest)) :=
  lv_icmp_gt hx hb hd ht (fun h => kt ((nI_ltI hbb ha).mp h)) (fun h => kf (Nat.le_of_not_lt fun q => h ((nI_ltI hbb ha).mpr q)))
theorem b_icmp_le (hx : p.tables.exec = Jvm.exec) (hb : c.code = cc) (hd : decode cc pc = .ok (.if_icmp .le off, 3)) (ht : (pc : Int) + off = (tgt : Int)) (ha : a < 2 ^ 31) (hbb : b < 2 ^ 31) (kt : a ≤ b → W p l e R s m args below meth c H locs cells slots Q (F0 m tgt ls rest)) (kf : b < a → W p l e R s m args below meth c H locs cells slots Q (F0 m (pc + 3) ls rest)) : W p l e R s m args below meth c H locs cells slots Q (F0 m pc ls (.int (nI b) :: .int (nI a) :: rest)) :=
  lv_icmp_le hx hb hd ht (fun h => kt ((nI_leI ha hbb).mp h)) (fun h => kf (Nat.lt_of_not_le fun q => h ((nI_leI ha hbb).mpr q)))
theorem b_icmp_eq (hx : p.tables.exec = Jvm.exec) (hb : c.code = cc) (hd : decode cc pc = .ok (.if_icmp .eq off, 3)) (ht : (pc : Int) + off = (tgt : Int)) (ha : a < 2 ^ 31) (hbb : b < 2 ^ 31) (kt : a = b → W p l e R s m args below meth c H locs cells slots Q (F0 m tgt ls rest)) (kf : a ≠ b → W p l e R s m args below meth c H locs cells slots Q (F0 m (pc + 3) ls rest)) : W p l e R s m args below meth c H locs cells slots Q (F0 m pc ls (.int (nI b) :: .int (nI a) :: rest)) :=
  lv_icmp_eq hx hb hd ht (fun h => kt ((nI_eq ha hbb).mp h)) (fun h => kf (fun q => h (by rw [q])))
theorem b_icmp_ne (hx : p.tables.exec = Jvm.exec) (hb : c.code = cc) (hd : decode cc pc = .ok (.if_icmp .ne off, 3)) (ht : (pc : Int) + off = (tgt : Int)) (ha : a < 2 ^ 31) (hbb : b < 2 ^ 31) (kt : a ≠ b → W p l e R s m args below meth c H locs cells slots Q (F0 m tgt ls rest)) (kf : a = b → W p l e R s m args below meth c H locs cells slots Q (F0 m (pc + 3) ls rest)) : W p l e R s m args below meth c H locs cells slots Q (F0 m pc ls (.int (nI b) :: .int (nI a) :: rest)) :=
  lv_icmp_ne hx hb hd ht (fun h => kt (fun q => h (by rw [q]))) (fun h => kf ((nI_eq ha hbb).mp h))
theorem b_if_lt (hx : p.tables.exec = Jvm.exec) (hb : c.code = cc) (hd : decode cc pc = .ok (.ifCond .lt off, 3)) (ht : (pc : Int) + off = (tgt : Int)) (ha : a < 2 ^ 31) (kf : W p l e R s m args below meth c H locs cells slots Q (F0 m (pc + 3) ls rest)) : W p l e R s m args below meth c H locs cells slots Q (F0 m pc ls (.int (nI a) :: rest)) :=
  lv_if_lt hx hb hd ht (fun h => absurd h (nI_pos ha)) (fun _ => kf)
theorem b_if_ge (hx : p.tables.exec = Jvm.exec) (hb : c.code = cc) (hd : decode cc pc = .ok (.ifCond .ge off, 3)) (ht : (pc : Int) + off = (tgt : Int)) (ha : a < 2 ^ 31) (kt : W p l e R s m args below meth c H locs cells slots Q (F0 m tgt ls rest)) : W p l e R s m args below meth c H locs cells slots Q (F0 m pc ls (.int (nI a) :: rest)) :=
  lv_if_ge hx hb hd ht (fun _ => kt) (fun h => absurd (nI_pos' ha) h)
theorem b_if_eq (hx : p.tables.exec = Jvm.exec) (hb : c.code = cc) (hd : decode cc pc = .ok (.ifCond .eq off, 3)) (ht : (pc : Int) + off = (tgt : Int)) (ha : a < 2 ^ 31) (kt : a = 0 → W p l e R s m args below meth c H locs cells slots Q (F0 m tgt ls rest)) (kf : 0 < a → W p l e R s m args below meth c H locs cells slots Q (F0 m (pc + 3) ls rest)) : W p l e R s m args below meth c H locs cells slots Q (F0 m pc ls (.int (nI a) :: rest)) :=
  lv_if_eq hx hb hd ht (fun h => kt ((nI_eq ha (by omega)).mp (h.trans nI_0.symm))) (fun h => kf (Nat.pos_of_ne_zero fun q => h (by rw [q]; rfl)))
theorem b_if_ne (hx : p.tables.exec = Jvm.exec) (hb : c.code = cc) (hd : decode cc pc = .ok (.ifCond .ne off, 3)) (ht : (pc : Int) + off = (tgt : Int)) (ha : a < 2 ^ 31) (kt : 0 < a → W p l e R s m args below meth c H locs cells slots Q (F0 m tgt ls rest)) (kf : a = 0 → W p l e R s m args below meth c H locs cells slots Q (F0 m (pc + 3) ls rest)) : W p l e R s m args below meth c H locs cells slots Q (F0 m pc ls (.int (nI a) :: rest)) :=
  lv_if_ne hx hb hd ht (fun h => kt (Nat.pos_of_ne_zero fun q => h (by rw [q]; rfl))) (fun h => kf ((nI_eq ha (by omega)).mp (h.trans nI_0.symm)))
theorem b_if_gt (hx : p.tables.exec = Jvm.exec) (hb : c.code = cc) (hd : decode cc pc = .ok (.ifCond .gt off, 3)) (ht : (pc : Int) + off = (tgt : Int)) (ha : a < 2 ^ 31) (kt : 0 < a → W p l e R s m args below meth c H locs cells slots Q (F0 m tgt ls rest)) (kf : a = 0 → W p l e R s m args below meth c H locs cells slots Q (F0 m (pc + 3) ls rest)) : W p l e R s m args below meth c H locs cells slots Q (F0 m pc ls (.int (nI a) :: rest)) :=
  lv_if_gt hx hb hd ht (fun h => kt ((nI_ltI (by omega) ha).mp (nI_0 ▸ h))) (fun h => kf (Nat.eq_zero_of_not_pos fun q => h (nI_0 ▸ (nI_ltI (by omega) ha).mpr q)))
theorem b_if_le (hx : p.tables.exec = Jvm.exec) (hb : c.code = cc) (hd : decode cc pc = .ok (.ifCond .le off, 3)) (ht : (pc : Int) + off = (tgt : Int)) (ha : a < 2 ^ 31) (kt : a = 0 → W p l e R s m args below meth c H locs cells slots Q (F0 m tgt ls rest)) (kf : 0 < a → W p l e R s m args below meth c H locs cells slots Q (F0 m (pc + 3) ls rest)) : W p l e R s m args below meth c H locs cells slots Q (F0 m pc ls (.int (nI a) :: rest)) :=
  lv_if_le hx hb hd ht (fun h => kt (Nat.eq_zero_of_not_pos fun q => nI_nle q ha h)) (fun h => kf (Nat.pos_of_ne_zero fun q => h (by rw [q]; decide)))
theorem z_eq {P : Prop} [Decidable P] (hx : p.tables.exec = Jvm.exec) (hb : c.code = cc) (hd : decode cc pc = .ok (.ifCond .eq off, 3)) (ht : (pc : Int) + off = (tgt : Int)) (kt : ¬ P → W p l e R s m args below meth c H locs cells slots Q (F0 m tgt ls rest)) (kf : P → W p l e R s m args below meth c H locs cells slots Q (F0 m (pc + 3) ls rest)) : W p l e R s m args below meth c H locs cells slots Q (F0 m pc ls (.int (if P then 1 else 0) :: rest)) :=
  lv_if_eq hx hb hd ht (fun h => kt (fun q => absurd (h.symm.trans (if_pos q)) (by decide))) (fun h => kf (Classical.byContradiction fun q => h (if_neg q)))
theorem z_ne {P : Prop} [Decidable P] (hx : p.tables.exec = Jvm.exec) (hb : c.code = cc) (hd : decode cc pc = .ok (.ifCond .ne off, 3)) (ht : (pc : Int) + off = (tgt : Int)) (kt : P → W p l e R s m args below meth c H locs cells slots Q (F0 m tgt ls rest)) (kf : ¬ P → W p l e R s m args below meth c H locs cells slots Q (F0 m (pc + 3) ls rest)) : W p l e R s m args below meth c H locs cells slots Q (F0 m pc ls (.int (if P then 1 else 0) :: rest)) :=
  lv_if_ne hx hb hd ht (fun h => kt (Classical.byContradiction fun q => h (if_neg q))) (fun h => kf (fun q => absurd (h.symm.trans (if_pos q)) (by decide)))
theorem a_iadd (hx : p.tables.exec = Jvm.exec) (hb : c.code = cc) (hd : decode cc pc = .ok (.iadd, 1)) (kk : W p l e R s m args below meth c H locs cells slots Q (F0 m (pc + 1) ls (.int (nI (a + b)) :: rest))) : W p l e R s m args below meth c H locs cells slots Q (F0 m pc ls (.int (nI b) :: .int (nI a) :: rest)) :=
  lv_iadd hx hb hd (by rw [nI_add]; exact kk)
theorem a_isub (hx : p.tables.exec = Jvm.exec) (hb : c.code = cc) (hd : decode cc pc = .ok (.isub, 1)) (h : b ≤ a) (kk : W p l e R s m args below meth c H locs cells slots Q (F0 m (pc + 1) ls (.int (nI (a - b)) :: rest))) : W p l e R s m args below meth c H locs cells slots Q (F0 m pc ls (.int (nI b) :: .int (nI a) :: rest)) :=
  lv_isub hx hb hd (by rw [pk_sub h]; exact kk)
theorem a_imul (hx : p.tables.exec = Jvm.exec) (hb : c.code = cc) (hd : decode cc pc = .ok (.imul, 1)) (kk : W p l e R s m args below meth c H locs cells slots Q (F0 m (pc + 1) ls (.int (nI (a * b)) :: rest))) : W p l e R s m args below meth c H locs cells slots Q (F0 m pc ls (.int (nI b) :: .int (nI a) :: rest)) :=
  lv_imul hx hb hd (by rw [pk_mul]; exact kk)
theorem a_idiv (hx : p.tables.exec = Jvm.exec) (hb : c.code = cc) (hd : decode cc pc = .ok (.idiv, 1)) (ha : a < 2 ^ 31) (h0 : 0 < b) (hbb : b < 2 ^ 31) (kk : W p l e R s m args below meth c H locs cells slots Q (F0 m (pc + 1) ls (.int (nI (a / b)) :: rest))) : W p l e R s m args below meth c H locs cells slots Q (F0 m pc ls (.int (nI b) :: .int (nI a) :: rest)) :=
  lv_idiv hx hb hd (nI_ne0 h0 hbb) (by rw [pk_div ha h0 hbb]; exact kk)
theorem iinc_1 (a : Nat) : nI a + Int32.ofInt 1 = nI (a + 1) := nI_1 a
theorem iinc_m1 (a : Nat) : nI (a + 1) + Int32.ofInt (-1) = nI a := pk_m1 a
theorem fin_p {post : Option Value → St → Prop} {r r' : Option Value} {σ σ' : St} (h : post r' σ') (h1 : r = r') (h2 : σ = σ') : post r σ := h1 ▸ h2 ▸ h
end QBR
section QCALLS2
variable {p : Program} {l : Launch} {e : Env} {R : Room} {s : State} {m : MethodId} {args : Array Value} {below : List Frame} {meth : Method} {c : Code} {H : Heap} {locs : List Loc} {cells slots : Nat} {Q : State → Prop}
variable {cc : ByteArray} {pc nL index : Nat} {own : String} {ls : Array Slot} {rest st0 : List Value} {L : Lay} {H0 : Heap} {σ σ' : St} {k : Nat}
/-- the class of a cell of the world that has methods -/
def clOf (k : Nat) : String := if kd k = 0 then RX0 else if kd k = 1 then RX1 else if kd k = 2 then RX2 else if kd k = 3 then RX3 else if kd k = 4 then RX4 else if kd k = 5 then RX5 else if kd k = 6 then RX6 else RX7
theorem clOf_n {n : Nat} {C : String} {T : u_T} {N : Nat} (h : kd k = n) (hn : n < 8) (hc : vwCl[n]? = some (C, T, N)) : ∃ fs : List Value, ∀ J, cnt L σ J k = .inr (n, fs) := by
  rcases (show n = 0 ∨ n = 1 ∨ n = 2 ∨ n = 3 ∨ n = 4 ∨ n = 5 ∨ n = 6 ∨ n = 7 by omega) with rfl | rfl | rfl | rfl | rfl | rfl | rfl | rfl
  · exact ⟨_, fun J => cnt_0 h⟩
  · exact ⟨_, fun J => cnt_1 h⟩
  · exact ⟨_, fun J => cnt_2 h⟩
  · exact ⟨_, fun J => cnt_3 h⟩
  · exact ⟨_, fun J => cnt_4 h⟩
  · exact ⟨_, fun J => cnt_5 h⟩
  · exact ⟨_, fun J => cnt_6 h⟩
  · exact ⟨_, fun J => cnt_7 h⟩
abbrev ydV (y : MethodName) (C : String) (n : Nat) : Prop := y.cls = C ∧ y.cls ≠ "java/lang/invoke/MethodHandle" ∧ y.cls ≠ "java/lang/invoke/VarHandle" ∧ (parseMethodDescriptor y.desc).map (fun d => d.parameters.length) = some n
/-- virtual calls with a known end: an answer, none -/
theorem q_V1 {v : Value} (S : CallFix p m c cc nL s args qA own) (hI : Inj L) (hK : Kn L s) (h : Hd L s.heap H σ locs) {y : MethodName} {C : String} {T : u_T} {N ci maxL n : Nat} {bytes : ByteArray} {ret : Option FieldType} {rm : Room} (As : List Value) (hM : Mf l L y (Cond.code y bytes maxL ret :: qA) rm (.ref (ad L k) :: As) σ (some v) σ')
    (hk : kd k = ci) (hc : vwCl[ci]? = some (C, T, N)) (hci : ci < 8) (w1 : Cond.methodLink own index y ∈ qA) (w2 : Cond.instanceMethod y ∈ qA) (w3 : Cond.selects C y y ∈ qA) (w4 : Cond.initialized C ∈ qA) (w5 : Cond.code y bytes maxL ret ∈ qA)
    (hd : ydV y C n) (hn : As.length = n) (hR : rmFit rm R maxL cells slots) (hstk : st0 = As.reverse ++ .ref (ad L k) :: rest) (hrest : (rest.map fun v => v.category).sum ≤ 8) (hsz : ls.size = nL) (hdg : decode cc pc = .ok (.invokevirtual index, 3))
    (kk : ∀ (H1 : Heap) (locs1 : List Loc), Hd L s.heap H1 σ' locs1 → W p l e R s m args below meth c H1 locs1 cells slots Q (F0 m (pc + 3) ls (v :: rest))) : W p l e R s m args below meth c H locs cells slots Q (F0 m pc ls st0) := by
  obtain ⟨fs, hfs⟩ := clOf_n (L := L) (σ := σ) hk hci hc
  refine q_V S hI hK h hM hc hfs (kd_of hk (by omega)) w1 w2 w3 w4 w5 hd hn hR hstk hrest hsz hdg (fun r u H1 locs1 hp h1 => ?_)
  obtain ⟨rfl, rfl⟩ := hp
  exact kk H1 locs1 h1
theorem q_V0 (S : CallFix p m c cc nL s args qA own) (hI : Inj L) (hK : Kn L s) (h : Hd L s.heap H σ locs) {y : MethodName} {C : String} {T : u_T} {N ci maxL n : Nat} {bytes : ByteArray} {ret : Option FieldType} {rm : Room} (As : List Value) (hM : Mf l L y (Cond.code y bytes maxL ret :: qA) rm (.ref (ad L k) :: As) σ none σ')
    (hk : kd k = ci) (hc : vwCl[ci]? = some (C, T, N)) (hci : ci < 8) (w1 : Cond.methodLink own index y ∈ qA) (w2 : Cond.instanceMethod y ∈ qA) (w3 : Cond.selects C y y ∈ qA) (w4 : Cond.initialized C ∈ qA) (w5 : Cond.code y bytes maxL ret ∈ qA)
    (hd : ydV y C n) (hn : As.length = n) (hR : rmFit rm R maxL cells slots) (hstk : st0 = As.reverse ++ .ref (ad L k) :: rest) (hrest : (rest.map fun v => v.category).sum ≤ 8) (hsz : ls.size = nL) (hdg : decode cc pc = .ok (.invokevirtual index, 3))
    (kk : ∀ (H1 : Heap) (locs1 : List Loc), Hd L s.heap H1 σ' locs1 → W p l e R s m args below meth c H1 locs1 cells slots Q (F0 m (pc + 3) ls rest)) : W p l e R s m args below meth c H locs cells slots Q (F0 m pc ls st0) := by
  obtain ⟨fs, hfs⟩ := clOf_n (L := L) (σ := σ) hk hci hc
  refine q_V S hI hK h hM hc hfs (kd_of hk (by omega)) w1 w2 w3 w4 w5 hd hn hR hstk hrest hsz hdg (fun r u H1 locs1 hp h1 => ?_)
  obtain ⟨rfl, rfl⟩ := hp
  exact kk H1 locs1 h1
theorem q_S1 {v : Value} (S : CallFix p m c cc nL s args qA own) (hI : Inj L) (hK : Kn L s) (h : Hd L s.heap H σ locs) {y : MethodName} {maxL n : Nat} {bytes : ByteArray} {ret : Option FieldType} {rm : Room} (As : List Value) (hM : Mf l L y (Cond.code y bytes maxL ret :: qA) rm As σ (some v) σ')
    (w1 : Cond.methodLink own index y ∈ qA) (w2 : Cond.static y ∈ qA) (w4 : Cond.initialized own ∈ qA) (w5 : Cond.code y bytes maxL ret ∈ qA)
    (hd : ydV y own n) (hn : As.length = n) (hR : rmFit rm R maxL cells slots) (hstk : st0 = As.reverse ++ rest) (hrest : (rest.map fun v => v.category).sum ≤ 8) (hsz : ls.size = nL) (hdg : decode cc pc = .ok (.invokestatic index, 3))
    (kk : ∀ (H1 : Heap) (locs1 : List Loc), Hd L s.heap H1 σ' locs1 → W p l e R s m args below meth c H1 locs1 cells slots Q (F0 m (pc + 3) ls (v :: rest))) : W p l e R s m args below meth c H locs cells slots Q (F0 m pc ls st0) := by
  refine q_S S hI hK h hM w1 w2 w4 w5 hd hn hR hstk hrest hsz hdg (fun r u H1 locs1 hp h1 => ?_)
  obtain ⟨rfl, rfl⟩ := hp
  exact kk H1 locs1 h1
theorem Mf.ofW {y : MethodName} {rm : Room} {maxL : Nat} {ret : Option FieldType} {as : List Value} {r : Option Value} (hy : plainName y.cls = true) (hlen : (lg_sl as).length ≤ maxL)
    (body : ∀ (p : Program) (e : Env) (s : State) (m : MethodId) (args : Array Value) (below : List Frame) (meth : Method) (c : Code) (ls : Array Slot) (post : Option Value → St → Prop), post r σ' → Inj L → CallFix p m c cc maxL s args qA y.cls → meth.sig.returnType = ret → meth.locks = false → Kn L s → Hd L s.heap s.heap σ [] → lv_has ls maxL (lv_args 0 as) →
      W p l e rm s m args below meth c s.heap [] 0 0 (MQ below (Qg post (bs L) (Aw L)) args s 0 0 (Aw L)) (F0 m 0 ls [])) : Mf l L y (Cond.code y cc maxL ret :: qA) rm as σ r σ' :=
  Mg.ofW hy hlen (fun p e s m args below meth c ls hI S hr hk hK h hl => body p e s m args below meth c ls _ ⟨rfl, rfl⟩ hI S hr hk hK h hl)
end QCALLS2

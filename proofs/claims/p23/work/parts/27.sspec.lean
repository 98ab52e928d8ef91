/-! a state: settings and three digests; the history; all that the class holds -/
abbrev SS : Type := Int32 × Int32 × (Nat → Dg)
def SV (σ : St) (s : Nat) (X : SS) : Prop := σ (s+1) = [X.1, X.2.1] ∧ ∀ i, i < 3 → DX σ (s + 3 + 14 * i) (X.2.2 i)
def sset (σ : St) (s : Nat) (X : SS) : St := dx (dx (dx (up σ (s+1) [X.1, X.2.1]) (s+3) (X.2.2 0)) (s+17) (X.2.2 1)) (s+31) (X.2.2 2)
theorem dx_n {σ : St} {d j : Nat} {D : Dg} (h : j < d ∨ d + 13 ≤ j) : dx σ d D j = σ j := dset_n h
theorem sset_n {σ : St} {s k : Nat} {X : SS} (h : k < s + 1 ∨ s + 44 ≤ k) : sset σ s X k = σ k := by
  unfold sset
  rw [dx_n (by omega), dx_n (by omega), dx_n (by omega), up_n (by omega)]
theorem SV.congr {σ σ' : St} {s : Nat} {X : SS} (hv : SV σ s X) (e : ∀ j, s + 1 ≤ j → j < s + 44 → σ' j = σ j) : SV σ' s X :=
  ⟨(e _ (by omega) (by omega)).trans hv.1, fun i hi => (hv.2 i hi).congr (fun j h1 h2 => e j (by omega) (by omega))⟩
theorem SV_sset {σ : St} {s : Nat} {X : SS} : SV (sset σ s X) s X := by
  refine ⟨?_, fun i hi => ?_⟩
  · unfold sset
    rw [dx_n (by omega), dx_n (by omega), dx_n (by omega), up_s]
  · rcases (show i = 0 ∨ i = 1 ∨ i = 2 by omega) with rfl | rfl | rfl
    · exact DV_ne (DV_ne DV.dset (by omega)) (by omega)
    · exact DV_ne DV.dset (by omega)
    · exact DV.dset
theorem SV_wok {σ : St} {X : SS} (hv : SV σ 0 X) : σ 1 = [X.1, X.2.1] := hv.1
def setD (X : SS) (i : Nat) (D : Dg) : SS := (X.1, X.2.1, fun j => if j = i then D else X.2.2 j)
theorem setD_i {X : SS} {i : Nat} {D : Dg} : (setD X i D).2.2 i = D := if_pos rfl
theorem setD_n {X : SS} {i j : Nat} {D : Dg} (h : j ≠ i) : (setD X i D).2.2 j = X.2.2 j := if_neg h
theorem SV_dx {σ : St} {s i : Nat} {X : SS} {D : Dg} (hv : SV σ s X) (hi : i < 3) : SV (dset σ (s + 3 + 14 * i) D.1 D.2.1 D.2.2.1 D.2.2.2) s (setD X i D) := by
  refine ⟨(dset_n (by omega)).trans hv.1, fun j hj => ?_⟩
  by_cases q : j = i
  · subst q
    rw [setD_i]
    exact DV.dset
  · rw [setD_n q]
    exact DV_ne (hv.2 j hj) (by omega)
/-- the order in which the history's states stand: a permutation of 1 to 4 -/
def OK4 (O : Nat → Nat) : Prop := (∀ i, i < 4 → 1 ≤ O i ∧ O i ≤ 4) ∧ ∀ i j, i < 4 → j < 4 → O i = O j → i = j
def Ol (O : Nat → Nat) : List Int32 := [nI (O 0), nI (O 1), nI (O 2), nI (O 3)]
def HS (σ : St) (O : Nat → Nat) (h : List SS) : Prop := h.length ≤ 4 ∧ σ 225 = [nI h.length] ∧ σ 226 = Ol O ∧ ∀ j X, h[j]? = some X → SV σ (45 * O j) X
def CR (σ : St) (X : SS) (h : List SS) (t : List Int32) : Prop := SV σ 0 X ∧ (∃ O, OK4 O ∧ HS σ O h) ∧ σ 227 = t
def recH (h : List SS) (X : SS) : List SS := (if h.length < 4 then h else h.tail) ++ [X]
theorem CR.congr {σ σ' : St} {X : SS} {h : List SS} {t : List Int32} (hc : CR σ X h t) (e : ∀ j, j < 228 → σ' j = σ j) : CR σ' X h t := by
  obtain ⟨a, ⟨O, hO, b, c, d, f⟩, g⟩ := hc
  refine ⟨a.congr (fun j _ h2 => e j (by omega)), ⟨O, hO, b, (e _ (by omega)).trans c, (e _ (by omega)).trans d, fun j Y hj => (f j Y hj).congr (fun i h1 h2 => e i ?_)⟩, (e _ (by omega)).trans g⟩
  have hl := (List.getElem?_eq_some_iff.mp hj).1
  have := (hO.1 j (by omega)).2
  omega
theorem CR_hset {σ : St} {X : SS} {h : List SS} {t : List Int32} {k : Nat} {A : List Hp} (hc : CR σ X h t) (hk : 228 ≤ k) : CR (hset σ k A) X h t :=
  hc.congr (fun j hj => hset_n (by omega) (by omega) (by omega) (by omega))
theorem CR_up {σ : St} {X : SS} {h : List SS} {t l : List Int32} {k : Nat} (hc : CR σ X h t) (hk : 228 ≤ k) : CR (up σ k l) X h t := hc.congr (fun j hj => up_n (by omega))
theorem CR_dx {σ : St} {X : SS} {h : List SS} {t : List Int32} {i : Nat} {D : Dg} (hc : CR σ X h t) (hi : i < 3) : CR (dset σ (3 + 14 * i) D.1 D.2.1 D.2.2.1 D.2.2.2) (setD X i D) h t := by
  obtain ⟨a, ⟨O, hO, b, c, d, f⟩, g⟩ := hc
  have e := SV_dx (D := D) a hi
  rw [Nat.zero_add] at e
  refine ⟨e, ⟨O, hO, b, (dset_n (by omega)).trans c, (dset_n (by omega)).trans d, fun j Y hj => (f j Y hj).congr (fun k h1 h2 => dset_n ?_)⟩, (dset_n (by omega)).trans g⟩
  have hl := (List.getElem?_eq_some_iff.mp hj).1
  have := (hO.1 j (by omega)).1
  omega
theorem CR_text {σ : St} {X : SS} {h : List SS} {t t' : List Int32} (hc : CR σ X h t) : CR (up σ 227 t') X h t' := by
  obtain ⟨a, ⟨O, hO, b, c, d, f⟩, g⟩ := hc
  refine ⟨a.congr (fun j _ h2 => up_n (by omega)), ⟨O, hO, b, (up_n (by omega)).trans c, (up_n (by omega)).trans d, fun j Y hj => (f j Y hj).congr (fun k h1 h2 => up_n ?_)⟩, up_s⟩
  have hl := (List.getElem?_eq_some_iff.mp hj).1
  have := (hO.1 j (by omega)).2
  omega
/-- the current state is recorded at a free place -/
theorem HS_push {σ : St} {O : Nat → Nat} {h : List SS} {X : SS} (hO : OK4 O) (hs : HS σ O h) (hl : h.length < 4) : HS (up (sset σ (45 * O h.length) X) 225 [nI (h.length + 1)]) O (h ++ [X]) := by
  obtain ⟨a, b, c, d⟩ := hs
  have ho := hO.1 h.length hl
  refine ⟨by simp; omega, by rw [up_s]; simp, by rw [up_n (by omega), sset_n (by omega)]; exact c, fun j Y hj => ?_⟩
  by_cases q : j < h.length
  · rw [List.getElem?_append_left q] at hj
    have hoj := hO.1 j (by omega)
    have hne : O j ≠ O h.length := fun z => by have := hO.2 j h.length (by omega) hl z; omega
    exact (d j Y hj).congr (fun k h1 h2 => by rw [up_n (by omega), sset_n (by omega)])
  · have hj2 := (List.getElem?_eq_some_iff.mp hj).1
    rw [List.length_append, List.length_singleton] at hj2
    have e : j = h.length := by omega
    subst e
    rw [List.getElem?_append_right (Nat.le_refl _), Nat.sub_self] at hj
    cases hj
    exact SV_sset.congr (fun k h1 h2 => up_n (by omega))
def rot (O : Nat → Nat) : Nat → Nat := fun i => if i = 3 then O 0 else O (i + 1)
theorem rot_OK {O : Nat → Nat} (h : OK4 O) : OK4 (rot O) := by
  have key : ∀ i, i < 4 → ∃ k, k < 4 ∧ rot O i = O k ∧ (k = 0 ∧ i = 3 ∨ k = i + 1 ∧ i < 3) := by
    intro i hi
    by_cases q : i = 3
    · exact ⟨0, by omega, if_pos q, Or.inl ⟨rfl, q⟩⟩
    · exact ⟨i + 1, by omega, if_neg q, Or.inr ⟨rfl, by omega⟩⟩
  refine ⟨fun i hi => ?_, fun i j hi hj e => ?_⟩
  · obtain ⟨k, hk, hr, -⟩ := key i hi
    rw [hr]
    exact h.1 k hk
  · obtain ⟨k, hk, hr, h1⟩ := key i hi
    obtain ⟨k2, hk2, hr2, h2⟩ := key j hj
    rw [hr, hr2] at e
    have := h.2 k k2 hk hk2 e
    omega
/-- the oldest state is dropped: the others move one place ahead -/
theorem HS_drop {σ : St} {O : Nat → Nat} {h : List SS} (hO : OK4 O) (hs : HS σ O h) (hl : h.length = 4) : HS (up (up σ 226 (Ol (rot O))) 225 [nI 3]) (rot O) h.tail := by
  obtain ⟨a, b, c, d⟩ := hs
  have e : h.tail.length = 3 := by rw [List.length_tail, hl]
  refine ⟨by omega, by rw [up_s, e], by rw [up_n (by omega), up_s], fun j Y hj => ?_⟩
  have hj3 := (List.getElem?_eq_some_iff.mp hj).1
  rw [List.getElem?_tail] at hj
  have hr : rot O j = O (j + 1) := if_neg (by omega)
  rw [hr]
  have := (hO.1 (j + 1) (by omega)).2
  exact (d (j + 1) Y hj).congr (fun k h1 h2 => by rw [up_n (by omega), up_n (by omega)])
theorem kd45 {o : Nat} (h : o < 5) : kd (45 * o) = 5 := by
  rcases (show o = 0 ∨ o = 1 ∨ o = 2 ∨ o = 3 ∨ o = 4 by omega) with rfl | rfl | rfl | rfl | rfl <;> decide
theorem kd2 {k : Nat} (h : kd k = 2) : k = 225 := (show ∀ k, k < 245 → kd k = 2 → k = 225 from by decide +kernel) k (kd_of h) h
theorem kd314 {i : Nat} (h : i < 3) : kd (3 + 14 * i) = 0 := by
  rcases (show i = 0 ∨ i = 1 ∨ i = 2 by omega) with rfl | rfl | rfl <;> decide
theorem kd5d {k i : Nat} (hk : kd k = 5) (h : i < 3) : kd (k + 3 + 14 * i) = 0 := by
  rcases (show i = 0 ∨ i = 1 ∨ i = 2 by omega) with rfl | rfl | rfl
  · exact kd5_1 hk
  · exact kd5_2 hk
  · exact kd5_3 hk
section QSEL
variable {p : Program} {l : Launch} {e : Env} {R : Room} {s : State} {m : MethodId} {args : Array Value} {below : List Frame} {meth : Method} {c : Code} {H : Heap} {locs : List Loc} {cells slots : Nat} {Q : State → Prop}
variable {cc : ByteArray} {pc tgt nL index i o : Nat} {off : Int} {own : String} {ls : Array Slot} {rest st0 : List Value} {L : Lay} {H0 : Heap} {σ σ' : St} {k : Nat}
theorem g_salen (S : CallFix p m c cc nL s args qA own) (hK : Kn L s) (h : Hd L H0 H σ locs) (hk : kd k = 2) (hd : decode cc pc = .ok (.arraylength, 1)) (kk : W p l e R s m args below meth c H locs cells slots Q (F0 m (pc + 1) ls (.int (nI 4) :: rest))) : W p l e R s m args below meth c H locs cells slots Q (F0 m pc ls (.ref (ad L (k+1)) :: rest)) := by
  obtain rfl := kd2 hk
  obtain ⟨J, hJ⟩ := h.J
  exact va_alen (D := L.1) (x := (4, .inr (.inr (.inr (.inr (fun i => some (ad L (45 * ((σ 226).getD i 0).toNatClampNeg)))))))) S.1 S.2.1 hK.1 hJ.2.1 226 1 (by rw [wld_at (by omega), cnt_10 (by decide)]) rfl rfl hd kk
theorem g_sel (S : CallFix p m c cc nL s args qA own) (hK : Kn L s) (h : Hd L H0 H σ locs) (hk : kd k = 2) (hi : i < 4) (ho : (σ (k+1)).getD i 0 = nI o) (ho2 : o < 5) (hd : decode cc pc = .ok (.aaload, 1)) (kk : W p l e R s m args below meth c H locs cells slots Q (F0 m (pc + 1) ls (.ref (ad L (45 * o)) :: rest))) : W p l e R s m args below meth c H locs cells slots Q (F0 m pc ls (.int (nI i) :: .ref (ad L (k+1)) :: rest)) := by
  obtain rfl := kd2 hk
  obtain ⟨J, hJ⟩ := h.J
  refine va_aldq (D := L.1) (C := RX5) (n := 4) (f := fun i => some (ad L (45 * ((σ 226).getD i 0).toNatClampNeg))) S.1 S.2.1 hK.1 hJ.2.1 226 1 (by rw [wld_at (by omega), cnt_10 (by decide)]) rfl (vp_in_nI (by omega) (by omega)) hd ?_
  rw [nI_clamp (by omega), ho, nI_clamp (by omega)]
  exact kk
theorem p_sel (S : CallFix p m c cc nL s args qA own) (hI : Inj L) (hK : Kn L s) (h : Hd L H0 H σ locs) (hk : kd k = 2) (hi : i < 4) (hl : (σ (k+1)).length = 4) (ho2 : o < 5) (hd : decode cc pc = .ok (.aastore, 1)) (kk : ∀ (H1 : Heap) (locs1 : List Loc), Hd L H0 H1 (up σ (k+1) ((σ (k+1)).set i (nI o))) locs1 → W p l e R s m args below meth c H1 locs1 cells slots Q (F0 m (pc + 1) ls rest)) : W p l e R s m args below meth c H locs cells slots Q (F0 m pc ls (.ref (ad L (45 * o)) :: .int (nI i) :: .ref (ad L (k+1)) :: rest)) := by
  obtain rfl := kd2 hk
  obtain ⟨J, hJ⟩ := h.J
  have h5 := kd45 ho2
  refine va_astq (D := L.1) (r := (RX5, TX5, 4)) (n := 4) (f := fun i => some (ad L (45 * ((σ 226).getD i 0).toNatClampNeg))) S.1 S.2.1 hK.1 hJ.2.1 (hI.D σ J) hJ.2.2 226 1 (45 * o) 5 (by rw [wld_at (by omega), cnt_10 (by decide)]) rfl (by rw [wld_at (kd_of h5), cnt_5 h5]) rfl (vp_in_nI (by omega) (by omega)) hd (fun H1 locs1 hP1 _ hS1 => kk H1 locs1 ⟨⟨wok_upn h.ok (by decide), J, ?_⟩, hS1⟩)
  rw [nI_clamp (by omega)] at hP1
  rw [wld_set (σ' := up σ (225+1) ((σ (225+1)).set i (nI o))) (J' := J) (by omega) ?_ (cnt_upo (by decide))] at hP1
  · exact hP1
  · rw [cnt_10 (by decide)]
    congr 7
    funext j
    unfold va_up
    by_cases hj : j = i
    · subst hj
      rw [if_pos rfl, up_s, getD_set_self (by omega), nI_clamp (by omega)]
    · rw [if_neg hj, up_s, getD_set_ne (Ne.symm hj)]
theorem Mr_ofW {y : MethodName} {rm : Room} {maxL : Nat} {ret : Option FieldType} {as : List Value} {Post : Option Value → St → Prop} (hy : plainName y.cls = true) (hlen : (lg_sl as).length ≤ maxL)
    (body : ∀ (p : Program) (e : Env) (s : State) (m : MethodId) (args : Array Value) (below : List Frame) (meth : Method) (c : Code) (ls : Array Slot) (post : Option Value → St → Prop), (∀ r u, Post r u → post r u) → Inj L → CallFix p m c cc maxL s args qA y.cls → meth.sig.returnType = ret → meth.locks = false → Kn L s → Hd L s.heap s.heap σ [] → lv_has ls maxL (lv_args 0 as) →
      W p l e rm s m args below meth c s.heap [] 0 0 (MQ below (Qg post (bs L) (Aw L)) args s 0 0 (Aw L)) (F0 m 0 ls [])) : Mg l L y (Cond.code y cc maxL ret :: qA) rm as σ Post :=
  Mg.ofW hy hlen (fun p e s m args below meth c ls hI S hr hk hK h hl => body p e s m args below meth c ls _ (fun _ _ h => h) hI S hr hk hK h hl)
/-- virtual calls with a relation for an end -/
theorem q_VR {Post : Option Value → St → Prop} (S : CallFix p m c cc nL s args qA own) (hI : Inj L) (hK : Kn L s) (h : Hd L s.heap H σ locs) {y : MethodName} {C : String} {T : u_T} {N ci maxL n : Nat} {bytes : ByteArray} {ret : Option FieldType} {rm : Room} (As : List Value) (hM : Mg l L y (Cond.code y bytes maxL ret :: qA) rm (.ref (ad L k) :: As) σ Post)
    (hk : kd k = ci) (hc : vwCl[ci]? = some (C, T, N)) (hci : ci < 8) (w1 : Cond.methodLink own index y ∈ qA) (w2 : Cond.instanceMethod y ∈ qA) (w3 : Cond.selects C y y ∈ qA) (w4 : Cond.initialized C ∈ qA) (w5 : Cond.code y bytes maxL ret ∈ qA)
    (hd : ydV y C n) (hn : As.length = n) (hR : rmFit rm R maxL cells slots) (hstk : st0 = As.reverse ++ .ref (ad L k) :: rest) (hrest : (rest.map fun v => v.category).sum ≤ 8) (hsz : ls.size = nL) (hdg : decode cc pc = .ok (.invokevirtual index, 3))
    (kk : ∀ (r : Option Value) (u : St) (H1 : Heap) (locs1 : List Loc), Post r u → Hd L s.heap H1 u locs1 → W p l e R s m args below meth c H1 locs1 cells slots Q (F0 m (pc + 3) ls (r.toList ++ rest))) : W p l e R s m args below meth c H locs cells slots Q (F0 m pc ls st0) := by
  obtain ⟨fs, hfs⟩ := clOf_n (L := L) (σ := σ) hk hci hc
  exact q_V S hI hK h hM hc hfs (kd_of hk (by omega)) w1 w2 w3 w4 w5 hd hn hR hstk hrest hsz hdg kk
end QSEL

section CROWS
variable {p : Program} {l : Launch} {e : Env} {R : Room} {s : State} {m : MethodId} {args : Array Value} {below : List Frame} {meth : Method} {c : Code} {H : Heap} {locs : List Loc} {cells slots : Nat} {Q : State → Prop}
variable {cc : ByteArray} {pc nL index : Nat} {own : String} {ls : Array Slot} {rest st0 : List Value} {L : Lay} {H0 : Heap} {rl : List RE} {h0 : Nat}
theorem CS.set {i : Nat} {r : RE} {H1 : Heap} {k : Nat} (h : CS L h0 H0 H locs rl) (hz : H1.size = H.size) (ho : ∀ q, q ≠ h0 + i → H1[q]? = H[q]?) (hr : va_at L.1 vwCl (h0 + i, ie L h0 r) H1) : CS L h0 H0 H1 (locs ++ [⟨h0 + i, k⟩]) (rl.set i r) :=
  ⟨h.1.set hz ho hr, h.2.put hz ho (Nat.le_add_right h0 i)⟩
theorem CS.push {r : RE} {H1 : Heap} (h : CS L h0 H0 H locs rl) (hz : H1.size = H.size + 1) (ho : ∀ q, q < H.size → H1[q]? = H[q]?) (hr : va_at L.1 vwCl (H.size, ie L h0 r) H1) : CS L h0 H0 H1 locs (rl ++ [r]) :=
  ⟨h.1.push hz ho hr, by rw [hz]; have := h.2.1; omega, fun q h1 h2 => (ho q (Nat.lt_of_lt_of_le h1 h.2.1)).trans (h.2.2.1 q h1 h2), h.2.2.2⟩
theorem CS.P {i : Nat} {r : RE} (h : CS L h0 H0 H locs rl) (hi : rl[i]? = some r) : va_P L.1 vwCl [(h0 + i, ie L h0 r)] H := fun k q hk => by
  have hz : k < 1 := (List.getElem?_eq_some_iff.mp hk).1
  obtain rfl : k = 0 := by omega
  cases hk
  exact h.1.2 i r hi
theorem x_get (S : CallFix p m c cc nL s args qA own) (hK : KC L s) (h : CS L h0 H0 H locs rl) {i : Nat} {fs : List RV} {ci N : Nat} {C : String} {T : u_T} (hi : rl[i]? = some (.inl (ci, fs))) (hc : vwCl[ci]? = some (C, T, N)) (hin : ∀ w ∈ u_ws C T N, w ∈ qA) (f : Nat) (hf : f < N) {v : RV} (hv : fs[f]? = some v)
    (hq : Cond.fieldLink own index C (T f).2.1 (T f).2.2.1 ∈ qA) (hC : (T f).1 = C) (hd : decode cc pc = .ok (.getfield index, 3)) (kk : W p l e R s m args below meth c H locs cells slots Q (F0 m (pc + 3) ls (iv h0 v :: rest))) : W p l e R s m args below meth c H locs cells slots Q (F0 m pc ls (.ref (h0 + i) :: rest)) :=
  va_get (D := L.1) (ci := ci) S.1 S.2.1 S.2.2.2.2 hin S.2.2.2.1 hK.1.1 (h.P hi) 0 rfl hc f hf (S.2.2.2.2 _ hq) (fun x hx => by rw [← hC]; exact hx) (by rw [List.getElem?_map, hv]; rfl) hd kk
theorem x_alen (S : CallFix p m c cc nL s args qA own) (hK : KC L s) (h : CS L h0 H0 H locs rl) {i : Nat} {a : Nat × List Int32} (hi : rl[i]? = some (.inr (.inl a))) (hd : decode cc pc = .ok (.arraylength, 1)) (kk : W p l e R s m args below meth c H locs cells slots Q (F0 m (pc + 1) ls (.int (nI a.1) :: rest))) : W p l e R s m args below meth c H locs cells slots Q (F0 m pc ls (.ref (h0 + i) :: rest)) :=
  va_alen (D := L.1) (v := nI a.1) S.1 S.2.1 hK.1.1 (h.P hi) 0 0 rfl (ty := .int) rfl rfl hd kk
theorem x_alenq (S : CallFix p m c cc nL s args qA own) (hK : KC L s) (h : CS L h0 H0 H locs rl) {i : Nat} {a : Nat × List (Option Nat)} (hi : rl[i]? = some (.inr (.inr a))) (hd : decode cc pc = .ok (.arraylength, 1)) (kk : W p l e R s m args below meth c H locs cells slots Q (F0 m (pc + 1) ls (.int (nI a.1) :: rest))) : W p l e R s m args below meth c H locs cells slots Q (F0 m pc ls (.ref (h0 + i) :: rest)) :=
  va_alen (D := L.1) (v := nI a.1) S.1 S.2.1 hK.1.1 (h.P hi) 0 1 rfl (ty := .object RX5) rfl rfl hd kk
theorem x_new (S : CallFix p m c cc nL s args qA own) (hK : KC L s) (h : CS L h0 H0 H locs rl) {d : Nat} (hd0 : rl.length = d) {fs : List RV} {ci N : Nat} {C : String} {T : u_T} (hc : vwCl[ci]? = some (C, T, N)) (hin : ∀ w ∈ u_ws C T N, w ∈ qA) (ty : Nat → FieldType) (hty : ∀ k, k < N → parseFieldDescriptor (T k).2.2.1 = some (ty k)) (hfs : ∀ j, j < N → defaultValue (ty j) = vp_V (fs.map (iv h0)) j)
    (w1 : Cond.classLink own index C ∈ qA) (w2 : Cond.instantiable C N ∈ qA) (w3 : Cond.initialized C ∈ qA) (hcells : cells + 1 ≤ R.cells) (hslots : slots + N ≤ R.slots) (hd : decode cc pc = .ok (.new index, 3))
    (kk : ∀ H1 : Heap, CS L h0 H0 H1 locs (rl ++ [.inl (ci, fs)]) → W p l e R s m args below meth c H1 locs (cells + 1) (slots + N) Q (F0 m (pc + 3) ls (.ref (h0 + d) :: rest))) : W p l e R s m args below meth c H locs cells slots Q (F0 m pc ls rest) := by
  have hKn := hK.1.1.1 ci _ hc
  refine W.newcK S.1 S.2.1 S.2.2.2.1 (S.2.2.2.2 _ w1) (S.2.2.2.2 _ w2) (S.2.2.2.2 _ w3) rfl hd hcells hslots hKn.2.1 rfl fun H1 kC hkC e1 z1 o1 => ?_
  have hs : H.size = h0 + d := by rw [h.1.1, hd0]
  rw [hs] at e1 z1 o1
  have := kk H1 (h.push (by rw [z1, hs]) (fun q hq => o1 q (by omega)) (by rw [hs]; exact ⟨_, hc, (u_born ty S.2.2.2.2 hin hKn hkC e1 hty).to hfs⟩))
  rw [hs]
  exact this
theorem x_newa (S : CallFix p m c cc nL s args qA own) (hK : KC L s) (h : CS L h0 H0 H locs rl) {d : Nat} (hd0 : rl.length = d) {n : Int32} {N : Nat} (hn : ¬ n < 0) (hN : n.toNatClampNeg = N) (hb : N ≤ 100000) (hcells : cells + 1 ≤ R.cells) (hslots : slots + N ≤ R.slots) (hd : decode cc pc = .ok (.newarray .int, 2))
    (kk : ∀ H1 : Heap, CS L h0 H0 H1 locs (rl ++ [.inr (.inl (N, []))]) → W p l e R s m args below meth c H1 locs (cells + 1) (slots + N) Q (F0 m (pc + 2) ls (.ref (h0 + d) :: rest))) : W p l e R s m args below meth c H locs cells slots Q (F0 m pc ls (.int n :: rest)) := by
  have hs : H.size = h0 + d := by rw [h.1.1, hd0]
  refine va_newaK (atype := .int) S.1 S.2.1 (S.2.2.2.2 _ q_41) rfl hd rfl hn hN (by show N * 4 ≤ _; omega) hcells hslots hs fun H1 cA e1 z1 o1 hAr hNm => ?_
  have hcA : cA = L.2.1 := by
    have h2 := (hK.1.1.2 0 (L.2.1, .int) rfl).2
    exact Option.some.inj (hNm.symm.trans h2)
  subst hcA
  exact kk H1 (h.push (by rw [z1, hs]) (fun q hq => o1 q (by omega)) (by rw [hs]; exact e1))
theorem x_newq (S : CallFix p m c cc nL s args qA own) (hK : KC L s) (h : CS L h0 H0 H locs rl) {d : Nat} (hd0 : rl.length = d) {n : Int32} {N : Nat} (hn : ¬ n < 0) (hN : n.toNatClampNeg = N) (hb : N ≤ 100000) (w1 : Cond.classLink own index RX5 ∈ qA) (hcells : cells + 1 ≤ R.cells) (hslots : slots + N ≤ R.slots) (hd : decode cc pc = .ok (.anewarray index, 3))
    (kk : ∀ H1 : Heap, CS L h0 H0 H1 locs (rl ++ [.inr (.inr (N, []))]) → W p l e R s m args below meth c H1 locs (cells + 1) (slots + N) Q (F0 m (pc + 3) ls (.ref (h0 + d) :: rest))) : W p l e R s m args below meth c H locs cells slots Q (F0 m pc ls (.int n :: rest)) := by
  have hs : H.size = h0 + d := by rw [h.1.1, hd0]
  subst hN
  refine W.anew S.1 S.2.1 S.2.2.2.1 (S.2.2.2.2 _ w1) (va_AO.use hK.2.2.2.2.2.2) rfl hd rfl hn (by omega) hcells hslots fun cA kA comp f1 f2 f3 f4 => ?_
  have hcA : cA = L.2.2.1 := by
    obtain ⟨kA2, comp2, k1, k2, k3, k4⟩ := (hK.1.1.2 1 (L.2.2.1, .object RX5) rfl).2
    exact Option.some.inj (f1.symm.trans k4)
  subst hcA
  generalize hH1 : H.push ({ cls := L.2.2.1, slots := Array.replicate n.toNatClampNeg .null, vm := .none } : Cell) = H1
  have z1 : H1.size = H.size + 1 := by rw [← hH1, Array.size_push]
  have e1 : H1[H.size]? = some (arrV L.2.2.1 n.toNatClampNeg (fun _ => .null)) := by rw [← hH1, Array.getElem?_push_size, ← arrV_new]
  have o1 : ∀ q : Nat, q < H.size → H1[q]? = H[q]? := fun q hq => by rw [← hH1, Array.getElem?_push, if_neg (Nat.ne_of_lt hq)]
  have := kk H1 (h.push z1 o1 (show H1[H.size]? = some (vp_cell _ _) by rw [vp_cell_q]; exact e1))
  rw [hs]
  exact this
theorem x_put (S : CallFix p m c cc nL s args qA own) (hK : KC L s) (h : CS L h0 H0 H locs rl) {i : Nat} {fs : List RV} {ci N : Nat} {C : String} {T : u_T} (hi : rl[i]? = some (.inl (ci, fs))) (hc : vwCl[ci]? = some (C, T, N)) (hin : ∀ w ∈ u_ws C T N, w ∈ qA) (ty0 : Nat → FieldType) (hty : ∀ k, k < N → parseFieldDescriptor (T k).2.2.1 = some (ty0 k)) (hnm : ∀ a, a < N → ∀ b, b < N → a ≠ b → (T a).2.1 ≠ (T b).2.1)
    (f : Nat) (hf : f < N) (hq : Cond.fieldLink own index C (T f).2.1 (T f).2.2.1 ∈ qA) (hC : (T f).1 = C) (hfin : (T f).2.2.2 = false) {ty : FieldType} {v : RV} (hdt : parseFieldDescriptor (T f).2.2.1 = some ty) (hn : narrow ty (iv h0 v) = iv h0 v) (hfit : fits ty (iv h0 v) = true) (hl : f < fs.length) (hd : decode cc pc = .ok (.putfield index, 3))
    (kk : ∀ (H1 : Heap) (locs1 : List Loc), CS L h0 H0 H1 locs1 (rl.set i (.inl (ci, fs.set f v))) → W p l e R s m args below meth c H1 locs1 cells slots Q (F0 m (pc + 3) ls rest)) : W p l e R s m args below meth c H locs cells slots Q (F0 m pc ls (iv h0 v :: .ref (h0 + i) :: rest)) := by
  have hap := va_apart (own := own) S.2.2.2.2 hin ty0 hty hnm hK.1.1 hc
  obtain ⟨r, h1, cell, q1, q2, q3, q4⟩ := h.1.2 i _ hi
  have hr : r = (C, T, N) := Option.some.inj (h1.symm.trans hc)
  subst hr
  obtain ⟨hS, hfc, kC, hkC, hkind⟩ := hK.1.1.1 ci _ hc
  obtain ⟨cf, kf, fi, g, hgi, hsl⟩ := hS f hf
  have hlay := S.2.2.2.2 _ (hin _ (u_in_lay hf))
  unfold u_lay at hlay
  rw [if_neg (by rw [hfin]; decide)] at hlay
  have hst := (u_facts hfc hkC (u_lays S.2.2.2.2 hin hf) hgi).1
  have h6 := u_store hfc hkC hkind hlay hgi hdt hn hfit
  refine W.putK S.1 S.2.1 (f := g) ⟨S.2.2.2.1, S.2.2.2.2 _ hq, ⟨_, _, _, (by rw [hC] at hgi; exact hgi)⟩, hst⟩ (by rw [q2]; exact h6) q1 q3 (by rw [hsl]; exact k2_hasslot (q4 f hf)) rfl rfl hd fun H' e1 e2 e3 => ?_
  rw [hsl] at e1 ⊢
  refine kk H' _ (h.set e2 e3 ⟨_, hc, t_OB.to (V := updV (vp_V (fs.map (iv h0))) f (iv h0 v)) ⟨_, e1, q2, q3, t_set q4 hap hf _⟩ (fun j _ => ?_)⟩)
  show _ = vp_V ((fs.set f v).map (iv h0)) j
  rw [List.map_set]
  exact vp_updV_set (by rw [List.length_map]; exact hl) _ j
theorem x_putF (S : CallFix p m c cc nL s args qA own) (hK : KC L s) (h : CS L h0 H0 H locs rl) (hinit : meth.name = "<init>") {i : Nat} {fs : List RV} {ci N : Nat} {C : String} {T : u_T} (hi : rl[i]? = some (.inl (ci, fs))) (hc : vwCl[ci]? = some (C, T, N)) (hin : ∀ w ∈ u_ws C T N, w ∈ qA) (ty0 : Nat → FieldType) (hty : ∀ k, k < N → parseFieldDescriptor (T k).2.2.1 = some (ty0 k)) (hnm : ∀ a, a < N → ∀ b, b < N → a ≠ b → (T a).2.1 ≠ (T b).2.1)
    (f : Nat) (hf : f < N) (hq : Cond.fieldLink own index C (T f).2.1 (T f).2.2.1 ∈ qA) (hC : (T f).1 = C) (hown : (T f).1 = own) (hfin : (T f).2.2.2 = true) {ty : FieldType} {v : RV} (hdt : parseFieldDescriptor (T f).2.2.1 = some ty) (hn : narrow ty (iv h0 v) = iv h0 v) (hfit : fits ty (iv h0 v) = true) (hl : f < fs.length) (hd : decode cc pc = .ok (.putfield index, 3))
    (kk : ∀ (H1 : Heap) (locs1 : List Loc), CS L h0 H0 H1 locs1 (rl.set i (.inl (ci, fs.set f v))) → W p l e R s m args below meth c H1 locs1 cells slots Q (F0 m (pc + 3) ls rest)) : W p l e R s m args below meth c H locs cells slots Q (F0 m pc ls (iv h0 v :: .ref (h0 + i) :: rest)) := by
  have hap := va_apart (own := own) S.2.2.2.2 hin ty0 hty hnm hK.1.1 hc
  obtain ⟨r, h1, cell, q1, q2, q3, q4⟩ := h.1.2 i _ hi
  have hr : r = (C, T, N) := Option.some.inj (h1.symm.trans hc)
  subst hr
  obtain ⟨hS, hfc, kC, hkC, hkind⟩ := hK.1.1.1 ci _ hc
  obtain ⟨cf, kf, fi, g, hgi, hsl⟩ := hS f hf
  have hlay := S.2.2.2.2 _ (hin _ (u_in_lay hf))
  unfold u_lay at hlay
  rw [if_pos hfin] at hlay
  have hst := (u_facts hfc hkC (u_lays S.2.2.2.2 hin hf) hgi).1
  have hcf : m.cls = cf := by
    obtain ⟨_, _, c', _, _, _, -, -, hf', -, -, -, hown2, -⟩ := Cond.laysFinal_spec hlay
    have e1 : c' = cf := by have := hgi.symm.trans hf'; simp at this; exact this.1.symm
    rw [hown] at hown2
    rw [← e1]; exact Option.some.inj (S.2.2.2.1.symm.trans hown2)
  have h6 := u_fits hfc hkC hkind (Or.inr hlay) hgi hdt hn hfit
  refine W.putFinK S.1 S.2.1 S.2.2.2.1 (S.2.2.2.2 _ hq) (by rw [hC] at hgi; exact hgi) hst hcf hinit (by rw [q2]; exact h6) q1 q3 (by rw [hsl]; exact k2_hasslot (q4 f hf)) rfl rfl hd fun H' e1 e2 e3 => ?_
  rw [hsl] at e1 ⊢
  refine kk H' _ (h.set e2 e3 ⟨_, hc, t_OB.to (V := updV (vp_V (fs.map (iv h0))) f (iv h0 v)) ⟨_, e1, q2, q3, t_set q4 hap hf _⟩ (fun j _ => ?_)⟩)
  show _ = vp_V ((fs.set f v).map (iv h0)) j
  rw [List.map_set]
  exact vp_updV_set (by rw [List.length_map]; exact hl) _ j
theorem x_iast (S : CallFix p m c cc nL s args qA own) (hK : KC L s) (h : CS L h0 H0 H locs rl) {i n : Nat} {li : List Int32} (hi : rl[i]? = some (.inr (.inl (n, li)))) {x : Int32} (hl : li.length < n) (hn : n < 2 ^ 31) (hd : decode cc pc = .ok (.iastore, 1))
    (kk : ∀ (H1 : Heap) (locs1 : List Loc), CS L h0 H0 H1 locs1 (rl.set i (.inr (.inl (n, li ++ [x])))) → W p l e R s m args below meth c H1 locs1 cells slots Q (F0 m (pc + 1) ls rest)) : W p l e R s m args below meth c H locs cells slots Q (F0 m pc ls (.int x :: .int (nI li.length) :: .ref (h0 + i) :: rest)) := by
  have hc : (nI li.length).toNatClampNeg = li.length := nI_clamp (by omega)
  have ha := h.1.2 i _ hi
  refine W.iast S.1 S.2.1 (show H[h0 + i]? = some (vp_cell L.2.1 (n, .inl (fun j => li.getD j 0))) from ha) ((hK.1.1.2 0 _ rfl).1 n (fun j => .int (li.getD j 0))) (fun q => by cases q) (by show ¬ (nI li.length < 0 ∨ (arrV _ _ _).slots.size ≤ _); rw [arrV_size, hc]; rintro (z | z); exact nI_pos (by omega) z; omega) rfl rfl hd fun H1 e1 z oq => ?_
  rw [hc] at e1 ⊢
  refine kk H1 _ (h.set z oq ?_)
  show H1[h0 + i]? = some (vp_cell L.2.1 (n, .inl (fun j => (li ++ [x]).getD j 0)))
  rw [e1, vp_cell_i, vp_cell_i, arrV_store]
  congr 2
  funext q
  by_cases hq : q = li.length
  · subst hq
    rw [getD_snoc_l]
    simp [updV]
  · have e2 : (li ++ [x]).getD q 0 = li.getD q 0 := by
      rcases Nat.lt_or_ge q li.length with z2 | z2
      · exact getD_app_l z2
      · rw [List.getD_eq_getElem?_getD, List.getElem?_eq_none_iff.mpr (by rw [List.length_append, List.length_singleton]; omega), List.getD_eq_getElem?_getD, List.getElem?_eq_none_iff.mpr (by omega)]
    rw [e2]
    simp [updV, hq]
theorem x_aast (S : CallFix p m c cc nL s args qA own) (hK : KC L s) (h : CS L h0 H0 H locs rl) {i n d : Nat} {li : List (Option Nat)} {fs : List RV} (hi : rl[i]? = some (.inr (.inr (n, li)))) (hv : rl[d]? = some (.inl (5, fs))) (hl : li.length < n) (hn : n < 2 ^ 31) (hd : decode cc pc = .ok (.aastore, 1))
    (kk : ∀ (H1 : Heap) (locs1 : List Loc), CS L h0 H0 H1 locs1 (rl.set i (.inr (.inr (n, li ++ [some d])))) → W p l e R s m args below meth c H1 locs1 cells slots Q (F0 m (pc + 1) ls rest)) : W p l e R s m args below meth c H locs cells slots Q (F0 m pc ls (.ref (h0 + d) :: .int (nI li.length) :: .ref (h0 + i) :: rest)) := by
  have hc : (nI li.length).toNatClampNeg = li.length := nI_clamp (by omega)
  have ha := h.1.2 i _ hi
  obtain ⟨r', hr', cellV, g1, g2, g3, -⟩ := h.1.2 d _ hv
  have hr9 : r' = (RX5, TX5, 4) := Option.some.inj (hr'.symm.trans rfl)
  subst hr9
  have hcls := (hK.1.1.1 5 _ (rfl : vwCl[5]? = some (RX5, TX5, 4))).2
  obtain ⟨kA, comp, k1, k2, k3, -⟩ := (hK.1.1.2 1 (L.2.2.1, .object RX5) rfl).2
  have hcomp : comp = L.1.1 5 := Option.some.inj (k3.symm.trans hcls.1)
  subst hcomp
  obtain ⟨kC, hkC, -⟩ := hcls.2
  refine W.aast S.1 S.2.1 (show H[h0 + i]? = some (vp_cell L.2.2.1 (n, .inr (.inr (.inr (.inr (fun j => (li.getD j none).map (fun k => h0 + k))))))) from ha) (fun q h => by cases h) (fun h => by cases h) k1 k2 rfl hkC ⟨nI_pos (by omega), by show _ < (arrV _ _ _).slots.size; rw [arrV_size, hc]; exact hl⟩ g1 (fun q h => by rw [g3] at h; cases h) (by rw [g2]; exact hkC) (by rw [g2]; exact va_assign hcls) rfl rfl hd fun H1 e1 z oq => ?_
  rw [hc] at e1 ⊢
  refine kk H1 _ (h.set z oq ?_)
  show H1[h0 + i]? = some (vp_cell L.2.2.1 (n, .inr (.inr (.inr (.inr (fun j => ((li ++ [some d]).getD j none).map (fun k => h0 + k)))))))
  rw [e1, vp_cell_q, vp_cell_q, arrV_store]
  congr 2
  funext q
  by_cases hq : q = li.length
  · subst hq
    rw [getD_snoc_l]
    simp [updV, va_rf]
  · have e2 : (li ++ [some d]).getD q none = li.getD q none := by
      rcases Nat.lt_or_ge q li.length with z2 | z2
      · exact getD_app_l z2
      · rw [List.getD_eq_getElem?_getD, List.getElem?_eq_none_iff.mpr (by rw [List.length_append, List.length_singleton]; omega), List.getD_eq_getElem?_getD, List.getElem?_eq_none_iff.mpr (by omega)]
    rw [e2]
    simp [updV, hq]
theorem x_ret {rl' : List RE} (S : CallFix p m c cc nL s args qA own) (hK : KC L s) (h : CS L h0 s.heap H locs rl') (hr : meth.sig.returnType = none) (hlocks : meth.locks = false) (hd : decode cc pc = .ok (.return_, 1)) : W p l e R s m args below meth c H locs cells slots (MQ below (va_Qv (fun _ : Unit => True) (fun _ t => Bl L h0 rl' t.heap ∧ KC L t) (fun q => h0 ≤ q)) args s cells slots (fun q => h0 ≤ q)) (F0 m pc ls []) :=
  W.vret S.1 S.2.1 hr (fun t ht hW => ⟨⟨(), rfl, trivial, by rw [ht]; exact h.1, hK.warm hW⟩, h.2.F ht⟩) h.2.2.2 hd hlocks
theorem Mc.ofW {y : MethodName} {rm : Room} {maxL : Nat} {as : List Value} {rl' : List RE} {mc ms : Nat} (hy : plainName y.cls = true) (hlen : (lg_sl as).length ≤ maxL)
    (body : ∀ (p : Program) (e : Env) (s : State) (m : MethodId) (args : Array Value) (below : List Frame) (meth : Method) (c : Code) (ls : Array Slot), CallFix p m c cc maxL s args qA y.cls → meth.sig.returnType = none → meth.locks = false → meth.name = y.name → KC L s → CS L h0 s.heap s.heap [] rl → lv_has ls maxL (lv_args 0 as) →
      W p l e rm s m args below meth c s.heap [] 0 0 (MQ below (va_Qv (fun _ : Unit => True) (fun _ t => Bl L h0 rl' t.heap ∧ KC L t) (fun q => h0 ≤ q)) args s mc ms (fun q => h0 ≤ q)) (F0 m 0 ls [])) : Mc l L y (Cond.code y cc maxL none :: qA) rm as h0 rl rl' mc ms := by
  refine Met.ofW (cc := cc) (maxL := maxL) (ret := none) hy rfl ?_
  intro p e s m args below meth c s₁ B hml hv
  obtain ⟨rfl, hP, hK⟩ := hv
  have hts := atoms_spec (ws := Cond.code y cc maxL none :: qA) B.pre
  have hl := lv_entry as (n := maxL) hlen
  rw [lg_entry_eq]
  exact body p e s m _ below meth c _ ⟨B.exec, B.bytes, hml, findClass_of_methodNamed B.named, fun w h => hts w (List.mem_cons_of_mem _ h)⟩ B.returns B.notSynchronized (name_of_methodNamed B.named B.method).1 hK ⟨hP, va_S.rf⟩ hl
/-- behind a call that made a sub-block out of the newest cell -/
theorem x_behind {a : Array Value} {mc ms d : Nat} {rl2 : List RE} {x : RE} (hr : va_Run p l e R s m args below meth c H locs cells slots mc ms (F0 m pc ls st0) rest (va_Qv (fun _ : Unit => True) (fun _ t => Bl L (h0 + d) rl2 t.heap ∧ KC L t) (fun q => h0 + d ≤ q) a) (fun q => h0 + d ≤ q)) (h : CS L h0 H0 H locs (rl ++ [x])) (hd : rl.length = d)
    (kk : ∀ (H1 : Heap) (locs1 : List Loc), CS L h0 H0 H1 locs1 (rl ++ rl2.map (sh d)) → W p l e R s m args below meth c H1 locs1 (cells + mc) (slots + ms) Q (F0 m (pc + 3) ls rest)) : W p l e R s m args below meth c H locs cells slots Q (F0 m pc ls st0) :=
  va_callv hr h.2 (fun q _ z => Nat.le_trans (Nat.le_add_right h0 d) z) (fun q z => Nat.le_trans (Nat.le_add_right h0 d) z) (fun u t H1 locs1 ht hvm h5 hB hz1 hk1 hS => kk H1 locs1 ⟨h.1.join hd (fun q hq => hk1 q (by rw [h.1.1, List.length_append, List.length_singleton, hd]; omega) (by show ¬ h0 + d ≤ q; omega)) (by rw [← ht]; exact hB.1), hS⟩)
/-- a constructor of a sub-block, called by its own class's link -/
theorem x_ctI (S : CallFix p m c cc nL s args qA own) (hK : KC L s) {d : Nat} {r0 : RE} (h : CS L h0 H0 H locs (rl ++ [sh d r0])) (hd0 : rl.length = d) {y : MethodName} {maxL n mc ms : Nat} {bytes : ByteArray} {rm : Room} {As : List Value} {rl2 : List RE} (hM : Mc l L y (Cond.code y bytes maxL none :: qA) rm (.ref (h0 + d) :: As) (h0 + d) [r0] rl2 mc ms)
    (w1 : Cond.methodLink own index y ∈ qA) (w2 : Cond.instanceMethod y ∈ qA) (w4 : Cond.initialized y.cls ∈ qA) (w5 : Cond.code y bytes maxL none ∈ qA) (hy1 : y.name = "<init>")
    (hyd : y.cls ≠ "java/lang/invoke/MethodHandle" ∧ y.cls ≠ "java/lang/invoke/VarHandle" ∧ (parseMethodDescriptor y.desc).map (fun d => d.parameters.length) = some n) (hn : As.length = n) (hrc : rm.cells = mc ∧ rm.slots = ms) (hR : rm.frames + 1 ≤ R.frames ∧ 8 + (maxL + 11) + rm.locals ≤ R.locals) (hroom : cells + mc ≤ R.cells ∧ slots + ms ≤ R.slots) (hstk : st0 = As.reverse ++ .ref (h0 + d) :: rest) (hrest : (rest.map fun v => v.category).sum ≤ 8) (hsz : ls.size = nL) (hdg : decode cc pc = .ok (.invokespecial index, 3))
    (kk : ∀ (H1 : Heap) (locs1 : List Loc), CS L h0 H0 H1 locs1 (rl ++ rl2.map (sh d)) → W p l e R s m args below meth c H1 locs1 (cells + mc) (slots + ms) Q (F0 m (pc + 3) ls rest)) : W p l e R s m args below meth c H locs cells slots Q (F0 m pc ls st0) :=
  x_behind (va_runI (As := As) (rest := rest) S hM (cwI n S.2.2.2.2 (good_C w5) rfl hrc.1 hrc.2 (S.2.2.2.2 _ w4) (S.2.2.2.2 _ w1) (S.2.2.2.2 _ w2) hy1 hyd hR) ⟨blind_c _ L _ _, fun U hU hW => ⟨rfl, by rw [hU]; exact h.1.tail hd0, hK.warm hW⟩⟩ rfl hn hsz hstk (lv_room hrest) hdg hroom) h hd0 kk
theorem x_ctN (S : CallFix p m c cc nL s args qA own) (hK : KC L s) {d : Nat} {r0 : RE} (h : CS L h0 H0 H locs (rl ++ [sh d r0])) (hd0 : rl.length = d) {y : MethodName} {host : String} {maxL n mc ms : Nat} {bytes : ByteArray} {rm : Room} {As : List Value} {rl2 : List RE} (hM : Mc l L y (Cond.code y bytes maxL none :: qA) rm (.ref (h0 + d) :: As) (h0 + d) [r0] rl2 mc ms)
    (w1 : va_Nw (.methodLinkNest own index y host) s) (w2 : Cond.instanceMethod y ∈ qA) (w4 : Cond.initialized y.cls ∈ qA) (w5 : Cond.code y bytes maxL none ∈ qA) (hy1 : y.name = "<init>")
    (hyd : y.cls ≠ "java/lang/invoke/MethodHandle" ∧ y.cls ≠ "java/lang/invoke/VarHandle" ∧ (parseMethodDescriptor y.desc).map (fun d => d.parameters.length) = some n) (hn : As.length = n) (hrc : rm.cells = mc ∧ rm.slots = ms) (hR : rm.frames + 1 ≤ R.frames ∧ 8 + (maxL + 11) + rm.locals ≤ R.locals) (hroom : cells + mc ≤ R.cells ∧ slots + ms ≤ R.slots) (hstk : st0 = As.reverse ++ .ref (h0 + d) :: rest) (hrest : (rest.map fun v => v.category).sum ≤ 8) (hsz : ls.size = nL) (hdg : decode cc pc = .ok (.invokespecial index, 3))
    (kk : ∀ (H1 : Heap) (locs1 : List Loc), CS L h0 H0 H1 locs1 (rl ++ rl2.map (sh d)) → W p l e R s m args below meth c H1 locs1 (cells + mc) (slots + ms) Q (F0 m (pc + 3) ls rest)) : W p l e R s m args below meth c H locs cells slots Q (F0 m pc ls st0) :=
  x_behind (va_runIN (As := As) (rest := rest) S hM ⟨va_cnB n S.2.2.2.2 (good_C w5) rfl hrc.1 hrc.2 w1 (S.2.2.2.2 _ w4) hyd hR, hy1, S.2.2.2.2 _ w2⟩ ⟨blind_c _ L _ _, fun U hU hW => ⟨rfl, by rw [hU]; exact h.1.tail hd0, hK.warm hW⟩⟩ rfl hn hsz hstk (lv_room hrest) hdg hroom) h hd0 kk
/-- a method of a cell of the block, that makes no cells -/
theorem x_ctV (S : CallFix p m c cc nL s args qA own) (hK : KC L s) (h : CS L h0 H0 H locs rl) {i ci N : Nat} {C : String} {T : u_T} {fs : List RV} (hi : rl[i]? = some (.inl (ci, fs))) (hc : vwCl[ci]? = some (C, T, N)) {y : MethodName} {maxL n : Nat} {bytes : ByteArray} {rm : Room} {As : List Value} {rl2 : List RE} (hM : Mc l L y (Cond.code y bytes maxL none :: qA) rm (.ref (h0 + i) :: As) h0 rl rl2 0 0)
    (w1 : Cond.methodLink own index y ∈ qA) (w2 : Cond.instanceMethod y ∈ qA) (w3 : Cond.selects C y y ∈ qA) (w4 : Cond.initialized C ∈ qA) (w5 : Cond.code y bytes maxL none ∈ qA)
    (hyd : y.cls = C ∧ y.cls ≠ "java/lang/invoke/MethodHandle" ∧ y.cls ≠ "java/lang/invoke/VarHandle" ∧ (parseMethodDescriptor y.desc).map (fun d => d.parameters.length) = some n) (hn : As.length = n) (hR : rmFit rm R maxL cells slots) (hstk : st0 = As.reverse ++ .ref (h0 + i) :: rest) (hrest : (rest.map fun v => v.category).sum ≤ 8) (hsz : ls.size = nL) (hdg : decode cc pc = .ok (.invokevirtual index, 3))
    (kk : ∀ (H1 : Heap) (locs1 : List Loc), CS L h0 H0 H1 locs1 rl2 → W p l e R s m args below meth c H1 locs1 cells slots Q (F0 m (pc + 3) ls rest)) : W p l e R s m args below meth c H locs cells slots Q (F0 m pc ls st0) :=
  va_callv (va_runV (As := As) (rest := rest) S hM (cwV n S.2.2.2.2 (good_V w1 w2 w3 w4 w5) rfl hR.1.1 hR.1.2 hyd hR.2.1) ⟨blind_c _ L _ _, va_recv (q0 := 0) hK.1.1 (h.P hi) hc rfl, fun U hU hW => ⟨rfl, by rw [hU]; exact h.1, hK.warm hW⟩⟩ rfl hn hsz hstk (lv_room hrest) hdg hR.2.2) h.2 (fun q _ z => z) (fun q z => z) (fun u t H1 locs1 ht hvm h5 hB hz1 hk1 hS => kk H1 locs1 ⟨by rw [← ht]; exact hB.1, hS⟩)
end CROWS

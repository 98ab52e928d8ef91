/-! the script's cells -/
abbrev rL_cell : Room := { frames := 0, cells := 0, slots := 0, locals := 0 }
theorem yd_L_cell : ydV yL_cell RL 2 := ⟨rfl, by decide +kernel, by decide +kernel, by decide +kernel⟩
def bsX (b Ls : Nat) (xs : Nat → Int32) (U : State) : Prop := va_X b Ls xs U U.heap
theorem blind_bsX (as : List Value) (b Ls : Nat) (xs : Nat → Int32) : FrameBlind (va_Pc as (bsX b Ls xs)) := fun _ U _ _ q => ⟨q.1, va_X.moved (u := U) (Vm.Alike.refl U.vm) q.2⟩
theorem vin {i n : Nat} (h : i < n) (h2 : i < 2 ^ 31) : vp_in (nI i) n := by
  rintro (z | z)
  · exact nI_pos h2 z
  · rw [nI_clamp h2] at z
    omega
set_option maxHeartbeats 4000000 in
set_option maxRecDepth 100000 in
theorem c_L_cell (l : Launch) {b Ls k : Nat} {xs : Nat → Int32} (hk9 : k < 2 ^ 31) (hLs : Ls < 2 ^ 31) : Met l yL_cell (Cond.code yL_cell cL_cell 2 (some FieldType.int) :: qA) rL_cell (va_Pc [.ref b, .int (nI k)] (bsX b Ls xs)) (Qg (fun r (_ : Unit) => ∃ v : Int32, r = some (.int v)) (fun _ _ => True) (fun _ => False)) 0 0 (fun _ => False) := by
  refine Met.ofW (cc := cL_cell) (maxL := 2) (ret := some FieldType.int) (by decide) rfl ?_
  intro p e s m args below meth c s₁ B hml hv
  obtain ⟨rfl, hX⟩ := hv
  have hts := atoms_spec (ws := Cond.code yL_cell cL_cell 2 (some FieldType.int) :: qA) B.pre
  have hl := lv_entry ([.ref b, .int (nI k)]) (n := 2) (Nat.le_of_ble_eq_true rfl)
  rw [lg_entry_eq]
  generalize (lg_sl ([.ref b, .int (nI k)]) ++ List.replicate (2 - (lg_sl ([.ref b, .int (nI k)])).length) Slot.unset).toArray = ls at hl ⊢
  have hl : lv_has ls 2 [(0, .ref b), (1, .int (nI k))] := hl
  have S : CallFix p m c cL_cell 2 s ([.ref b, .int (nI k)] : List Value).toArray qA RL := ⟨B.exec, B.bytes, hml, findClass_of_methodNamed B.named, fun w h => hts w (List.mem_cons_of_mem _ h)⟩
  have hx := S.1
  have hb := S.2.1
  have hbl : b < s.heap.size := by
    obtain ⟨scr, h1, -⟩ := id hX
    exact (Array.getElem?_eq_some_iff.mp h1).1
  have hbA : ¬ (fun _ : Nat => False) b := fun z => z
  have hS : va_S (fun _ => False) s.heap s.heap [] := va_S.rf
  refine lv_iload_n hx hb dL_cell_0 rfl (lv_at hl 1 rfl) ?_
  refine lv_aload_n hx hb dL_cell_1 rfl (lv_at hl 0 rfl) ?_
  refine va_slen hx hb hX hbl hbA hS dL_cell_2 ?_
  refine b_icmp_ge (a := k) (b := Ls) (tgt := 12) hx hb dL_cell_3 (by decide) hk9 hLs (fun c9 => ?_) (fun c9 => ?_)
  · refine lv_ldc (v := (1009750483 : Int32)) hx hb S.2.2.2.1 (S.2.2.2.2 _ q_387) dL_cell_12 ?_
    refine lv_iload_n hx hb dL_cell_14 rfl (lv_at hl 1 rfl) ?_
    refine lv_iconst (v := (nI 1)) hx hb dL_cell_15 (by decide) ?_
    refine lv_iadd hx hb dL_cell_16 ?_
    refine lv_imul hx hb dL_cell_17 ?_
    refine lv_ldc (v := (701949111 : Int32)) hx hb S.2.2.2.1 (S.2.2.2.2 _ q_388) dL_cell_18 ?_
    refine lv_iadd hx hb dL_cell_20 ?_
    exact W.iret hx hb B.returns (fun t ht hW => ⟨⟨_, (), rfl, ⟨_, rfl⟩, trivial⟩, hS.F ht⟩) hS.2.2 dL_cell_21 B.notSynchronized
  · refine lv_aload_n hx hb dL_cell_6 rfl (lv_at hl 0 rfl) ?_
    refine lv_iload_n hx hb dL_cell_7 rfl (lv_at hl 1 rfl) ?_
    refine va_sld hx hb hX hbl hbA hS (vin c9 hk9) dL_cell_8 ?_
    refine lv_goto (tgt := 21) hx hb dL_cell_9 (by decide) ?_
    exact W.iret hx hb B.returns (fun t ht hW => ⟨⟨_, (), rfl, ⟨_, rfl⟩, trivial⟩, hS.F ht⟩) hS.2.2 dL_cell_21 B.notSynchronized
section QCELL
variable {p : Program} {l : Launch} {e : Env} {R : Room} {s : State} {m : MethodId} {args : Array Value} {below : List Frame} {meth : Method} {c : Code} {H : Heap} {locs : List Loc} {cells slots : Nat} {Q : State → Prop}
variable {cc : ByteArray} {pc nL index : Nat} {own : String} {ls : Array Slot} {rest st0 : List Value} {Lc L : Lay} {X : SS} {hh : List SS} {μ : Me} {A : Nat → Prop}
/-- a call for a cell of the script -/
theorem k_cell {b Ls k : Nat} {xs : Nat → Int32} (S : CallFix p m c cc nL s args qA own) (hX : va_X b Ls xs s s.heap) (hbl : b < s.heap.size) (hbA : ¬ A b) (h : HdA A Lc L X hh s.heap H μ locs) (hk : k < 2 ^ 31) (hLs : Ls < 2 ^ 31)
    (w1 : Cond.methodLink own index yL_cell ∈ qA) (w2 : Cond.static yL_cell ∈ qA) (w4 : Cond.initialized own ∈ qA) (w5 : Cond.code yL_cell cL_cell 2 (some FieldType.int) ∈ qA)
    (hd : ydV yL_cell own 2) (hR : rmFit rL_cell R 2 cells slots) (hstk : st0 = [.int (nI k), .ref b] ++ rest) (hrest : (rest.map fun v => v.category).sum ≤ 8) (hsz : ls.size = nL) (hdg : decode cc pc = .ok (.invokestatic index, 3))
    (kk : ∀ (v : Int32) (H1 : Heap) (locs1 : List Loc), HdA A Lc L X hh s.heap H1 μ locs1 → W p l e R s m args below meth c H1 locs1 cells slots Q (F0 m (pc + 3) ls (.int v :: rest))) : W p l e R s m args below meth c H locs cells slots Q (F0 m pc ls st0) := by
  obtain ⟨⟨hX2, hP9⟩, hS⟩ := h
  refine va_callg (va_runS (As := [.ref b, .int (nI k)]) (rest := rest) S (c_L_cell l (b := b) (xs := xs) hk hLs) (cwS 2 S.2.2.2.2 (good_S w1 w2 w4 w5) rfl hR.1.1 hR.1.2 hd hR.2.1) ⟨blind_bsX _ b Ls xs, fun U hU hW => ⟨rfl, ?_⟩⟩ rfl rfl hsz hstk (lv_room hrest) hdg hR.2.2) hS (fun q _ z => z.elim) (fun q z => z.elim) (fun r u t H1 locs1 ht _ hp hB hz hk2 hS1 => ?_)
  · show va_X b Ls xs U U.heap
    rw [hU]
    exact va_X.moved hW.alike (hX.kept (hS.2.1 b hbl hbA))
  · obtain ⟨v, rfl⟩ := hp
    exact kk v H1 locs1 ⟨⟨PX_kept hX2 (A := fun _ => False) (fun _ _ z => z) hk2, Pw9_kept hP9 (A := fun _ => False) (fun _ _ z => z) hk2⟩, hS1⟩
end QCELL

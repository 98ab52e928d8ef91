section QROWS2
variable {p : Program} {l : Launch} {e : Env} {R : Room} {s : State} {m : MethodId} {args : Array Value} {below : List Frame} {meth : Method} {c : Code} {H : Heap} {locs : List Loc} {cells slots : Nat} {Q : State → Prop}
variable {cc : ByteArray} {pc nL index : Nat} {own : String} {ls : Array Slot} {rest : List Value} {L : Lay} {H0 : Heap} {σ : St} {k : Nat}
def HdJ (L : Lay) (H0 H : Heap) (σ : St) (J : Nat → Nat → Int32) (locs : List Loc) : Prop := wok σ ∧ va_P L.1 vwCl (wld L σ J) H ∧ va_S (Aw L) H0 H locs
theorem HdJ.hd {J : Nat → Nat → Int32} (h : HdJ L H0 H σ J locs) : Hd L H0 H σ locs := ⟨⟨h.1, J, h.2.1⟩, h.2.2⟩
theorem Hd.J (h : Hd L H0 H σ locs) : ∃ J, HdJ L H0 H σ J locs := by
  obtain ⟨⟨a, J, b⟩, d⟩ := h
  exact ⟨J, a, b, d⟩
theorem Hd.ok (h : Hd L H0 H σ locs) : wok σ := h.1.1
theorem wok_up {l' : List Int32} (h : wok σ) (hl : kd k = 4 → l'.length ≤ cp k) : wok (up σ k l') := by
  intro j hj
  by_cases q : j = k
  · subst q
    rw [up_s]
    exact hl hj
  · rw [up_n q]
    exact h j hj
theorem wok_upn {l' : List Int32} (h : wok σ) (hk : kd k ≠ 4) : wok (up σ k l') := wok_up h (fun q => absurd q hk)
theorem wok.len (h : wok σ) (hk : kd k = 4) : (σ k).length ≤ 200 := Nat.le_trans (h k hk) (cp_le k (kd_of hk))
/-- a field is written -/
theorem pf (S : CallFix p m c cc nL s args qA own) (hI : Inj L) (hK : Kn L s) {J J' : Nat → Nat → Int32} (h : HdJ L H0 H σ J locs) {ci N : Nat} {C : String} {T : u_T} (hc : vwCl[ci]? = some (C, T, N)) (hin : ∀ w ∈ u_ws C T N, w ∈ qA) (ty0 : Nat → FieldType) (hty : ∀ k, k < N → parseFieldDescriptor (T k).2.2.1 = some (ty0 k)) (hnm : ∀ a, a < N → ∀ b, b < N → a ≠ b → (T a).2.1 ≠ (T b).2.1) {fs : List Value} (hcnt : cnt L σ J k = .inr (ci, fs)) (hk : k < 245) (f : Nat) (hf : f < N) {v : Value} {ty : FieldType} (hpd : parseFieldDescriptor (T f).2.2.1 = some ty) (hn : narrow ty v = v) (hfit : fits ty v = true) (hfin : (T f).2.2.2 = false) (hl : f < fs.length)
    {σ' : St} (hok : wok σ') (h1 : cnt L σ' J' k = .inr (ci, fs.set f v)) (h2 : ∀ j, j < 245 → j ≠ k → cnt L σ' J' j = cnt L σ J j)
    (hq : Cond.fieldLink own index C (T f).2.1 (T f).2.2.1 ∈ qA) (hC : (T f).1 = C) (hd : decode cc pc = .ok (.putfield index, 3)) (kk : ∀ (H1 : Heap) (locs1 : List Loc), HdJ L H0 H1 σ' J' locs1 → W p l e R s m args below meth c H1 locs1 cells slots Q (F0 m (pc + 3) ls rest)) : W p l e R s m args below meth c H locs cells slots Q (F0 m pc ls (v :: .ref (ad L k) :: rest)) := by
  obtain ⟨-, hP, hS⟩ := h
  refine va_put (D := L.1) (ci := ci) (ty := ty) S.1 S.2.1 S.2.2.2.2 hin ty0 hty hnm S.2.2.2.1 hK.1 hP (hI.D σ J) hS k (by rw [wld_at hk, hcnt]) hc f hf (S.2.2.2.2 _ hq) (fun x hx => by rw [← hC]; exact hx) hfin hpd hn hfit hl hd (fun H1 locs1 hP1 _ hS1 => kk H1 locs1 ⟨hok, ?_, hS1⟩)
  rw [wld_set hk h1 h2] at hP1
  exact hP1
theorem cnt_upo {J : Nat → Nat → Int32} {l' : List Int32} (hk : kd k ≠ 4) : ∀ j, j < 245 → j ≠ k → cnt L (up σ k l') J j = cnt L σ J j := by
  intro j hj hjk
  refine cnt_up hj hjk (fun h9 q => ?_)
  have := kd_9 j hj h9
  rw [q] at this
  exact hk this.2
theorem p_packings {x : Int32} (S : CallFix p m c cc nL s args qA own) (hI : Inj L) (hK : Kn L s) (h : Hd L H0 H σ locs) (hk : kd k = 0) (hq : Cond.fieldLink own index "QuantileDigests$Digest" "packings" "I" ∈ qA) (hd : decode cc pc = .ok (.putfield index, 3)) (kk : ∀ (H1 : Heap) (locs1 : List Loc), Hd L H0 H1 (up σ k [x]) locs1 → W p l e R s m args below meth c H1 locs1 cells slots Q (F0 m (pc + 3) ls rest)) : W p l e R s m args below meth c H locs cells slots Q (F0 m pc ls (.int x :: .ref (ad L k) :: rest)) := by
  obtain ⟨J, hJ⟩ := h.J
  exact pf S hI hK (J' := J) hJ (ci := 0) (C := RX0) (T := TX0) (N := 4) (ty := .int) rfl i_wsX00 tyX0 tyX0_ok nmX0 (cnt_0 hk) (kd_of hk) 3 (by decide) (by decide +kernel) rfl rfl rfl (by simp) (wok_upn h.ok (by omega)) (by rw [cnt_0 hk, up_s]; rfl) (cnt_upo (by omega)) hq rfl hd (fun H1 locs1 h1 => kk H1 locs1 h1.hd)
theorem p_size {x : Int32} (S : CallFix p m c cc nL s args qA own) (hI : Inj L) (hK : Kn L s) (h : Hd L H0 H σ locs) (hk : kd k = 2) (hq : Cond.fieldLink own index "QuantileDigests$History" "size" "I" ∈ qA) (hd : decode cc pc = .ok (.putfield index, 3)) (kk : ∀ (H1 : Heap) (locs1 : List Loc), Hd L H0 H1 (up σ k [x]) locs1 → W p l e R s m args below meth c H1 locs1 cells slots Q (F0 m (pc + 3) ls rest)) : W p l e R s m args below meth c H locs cells slots Q (F0 m pc ls (.int x :: .ref (ad L k) :: rest)) := by
  obtain ⟨J, hJ⟩ := h.J
  exact pf S hI hK (J' := J) hJ (ci := 2) (C := RX2) (T := TX2) (N := 2) (ty := .int) rfl i_wsX20 tyX2 tyX2_ok nmX2 (cnt_2 hk) (kd_of hk) 1 (by decide) (by decide +kernel) rfl rfl rfl (by simp) (wok_upn h.ok (by omega)) (by rw [cnt_2 hk, up_s]; rfl) (cnt_upo (by omega)) hq rfl hd (fun H1 locs1 h1 => kk H1 locs1 h1.hd)
theorem p_digest {x : Int32} (S : CallFix p m c cc nL s args qA own) (hI : Inj L) (hK : Kn L s) (h : Hd L H0 H σ locs) (hk : kd k = 3) (hq : Cond.fieldLink own index "QuantileDigests$Part" "digest" "I" ∈ qA) (hd : decode cc pc = .ok (.putfield index, 3)) (kk : ∀ (H1 : Heap) (locs1 : List Loc), Hd L H0 H1 (up σ k [x, (σ k).getD 1 0]) locs1 → W p l e R s m args below meth c H1 locs1 cells slots Q (F0 m (pc + 3) ls rest)) : W p l e R s m args below meth c H locs cells slots Q (F0 m pc ls (.int x :: .ref (ad L k) :: rest)) := by
  obtain ⟨J, hJ⟩ := h.J
  exact pf S hI hK (J' := J) hJ (ci := 3) (C := RX3) (T := TX3) (N := 3) (ty := .int) rfl i_wsX30 tyX3 tyX3_ok nmX3 (cnt_3 hk) (kd_of hk) 1 (by decide) (by decide +kernel) rfl rfl rfl (by simp) (wok_upn h.ok (by omega)) (by rw [cnt_3 hk, up_s]; rfl) (cnt_upo (by omega)) hq rfl hd (fun H1 locs1 h1 => kk H1 locs1 h1.hd)
theorem p_end {x : Int32} (S : CallFix p m c cc nL s args qA own) (hI : Inj L) (hK : Kn L s) (h : Hd L H0 H σ locs) (hk : kd k = 3) (hq : Cond.fieldLink own index "QuantileDigests$Part" "end" "I" ∈ qA) (hd : decode cc pc = .ok (.putfield index, 3)) (kk : ∀ (H1 : Heap) (locs1 : List Loc), Hd L H0 H1 (up σ k [(σ k).getD 0 0, x]) locs1 → W p l e R s m args below meth c H1 locs1 cells slots Q (F0 m (pc + 3) ls rest)) : W p l e R s m args below meth c H locs cells slots Q (F0 m pc ls (.int x :: .ref (ad L k) :: rest)) := by
  obtain ⟨J, hJ⟩ := h.J
  exact pf S hI hK (J' := J) hJ (ci := 3) (C := RX3) (T := TX3) (N := 3) (ty := .int) rfl i_wsX30 tyX3 tyX3_ok nmX3 (cnt_3 hk) (kd_of hk) 2 (by decide) (by decide +kernel) rfl rfl rfl (by simp) (wok_upn h.ok (by omega)) (by rw [cnt_3 hk, up_s]; rfl) (cnt_upo (by omega)) hq rfl hd (fun H1 locs1 h1 => kk H1 locs1 h1.hd)
theorem p_position {x : Int32} (S : CallFix p m c cc nL s args qA own) (hI : Inj L) (hK : Kn L s) (h : Hd L H0 H σ locs) (hk : kd k = 6) (hq : Cond.fieldLink own index "QuantileDigests$TextFault" "position" "I" ∈ qA) (hd : decode cc pc = .ok (.putfield index, 3)) (kk : ∀ (H1 : Heap) (locs1 : List Loc), Hd L H0 H1 (up σ k [x, (σ k).getD 1 0, (σ k).getD 2 0]) locs1 → W p l e R s m args below meth c H1 locs1 cells slots Q (F0 m (pc + 3) ls rest)) : W p l e R s m args below meth c H locs cells slots Q (F0 m pc ls (.int x :: .ref (ad L k) :: rest)) := by
  obtain ⟨J, hJ⟩ := h.J
  exact pf S hI hK (J' := J) hJ (ci := 6) (C := RX6) (T := TX6) (N := 4) (ty := .int) rfl i_wsX60 tyX6 tyX6_ok nmX6 (cnt_6 hk) (kd_of hk) 1 (by decide) (by decide +kernel) rfl rfl rfl (by simp) (wok_upn h.ok (by omega)) (by rw [cnt_6 hk, up_s]; rfl) (cnt_upo (by omega)) hq rfl hd (fun H1 locs1 h1 => kk H1 locs1 h1.hd)
theorem p_reason {x : Int32} (S : CallFix p m c cc nL s args qA own) (hI : Inj L) (hK : Kn L s) (h : Hd L H0 H σ locs) (hk : kd k = 6) (hq : Cond.fieldLink own index "QuantileDigests$TextFault" "reason" "I" ∈ qA) (hd : decode cc pc = .ok (.putfield index, 3)) (kk : ∀ (H1 : Heap) (locs1 : List Loc), Hd L H0 H1 (up σ k [(σ k).getD 0 0, x, (σ k).getD 2 0]) locs1 → W p l e R s m args below meth c H1 locs1 cells slots Q (F0 m (pc + 3) ls rest)) : W p l e R s m args below meth c H locs cells slots Q (F0 m pc ls (.int x :: .ref (ad L k) :: rest)) := by
  obtain ⟨J, hJ⟩ := h.J
  exact pf S hI hK (J' := J) hJ (ci := 6) (C := RX6) (T := TX6) (N := 4) (ty := .int) rfl i_wsX60 tyX6 tyX6_ok nmX6 (cnt_6 hk) (kd_of hk) 2 (by decide) (by decide +kernel) rfl rfl rfl (by simp) (wok_upn h.ok (by omega)) (by rw [cnt_6 hk, up_s]; rfl) (cnt_upo (by omega)) hq rfl hd (fun H1 locs1 h1 => kk H1 locs1 h1.hd)
theorem p_cause {x : Int32} (S : CallFix p m c cc nL s args qA own) (hI : Inj L) (hK : Kn L s) (h : Hd L H0 H σ locs) (hk : kd k = 6) (hq : Cond.fieldLink own index "QuantileDigests$TextFault" "cause" "I" ∈ qA) (hd : decode cc pc = .ok (.putfield index, 3)) (kk : ∀ (H1 : Heap) (locs1 : List Loc), Hd L H0 H1 (up σ k [(σ k).getD 0 0, (σ k).getD 1 0, x]) locs1 → W p l e R s m args below meth c H1 locs1 cells slots Q (F0 m (pc + 3) ls rest)) : W p l e R s m args below meth c H locs cells slots Q (F0 m pc ls (.int x :: .ref (ad L k) :: rest)) := by
  obtain ⟨J, hJ⟩ := h.J
  exact pf S hI hK (J' := J) hJ (ci := 6) (C := RX6) (T := TX6) (N := 4) (ty := .int) rfl i_wsX60 tyX6 tyX6_ok nmX6 (cnt_6 hk) (kd_of hk) 3 (by decide) (by decide +kernel) rfl rfl rfl (by simp) (wok_upn h.ok (by omega)) (by rw [cnt_6 hk, up_s]; rfl) (cnt_upo (by omega)) hq rfl hd (fun H1 locs1 h1 => kk H1 locs1 h1.hd)
/-- the length of a row is written: what the row then holds is what its array holds -/
theorem p_lenJ {n : Nat} (S : CallFix p m c cc nL s args qA own) (hI : Inj L) (hK : Kn L s) {J : Nat → Nat → Int32} (h : HdJ L H0 H σ J locs) (hk : kd k = 4) (hn : n ≤ cp k) {l' : List Int32} (hl : l' = (List.range n).map (ph σ J k)) (hq : Cond.fieldLink own index "QuantileDigests$Row" "length" "I" ∈ qA) (hd : decode cc pc = .ok (.putfield index, 3)) (kk : ∀ (H1 : Heap) (locs1 : List Loc), Hd L H0 H1 (up σ k l') locs1 → W p l e R s m args below meth c H1 locs1 cells slots Q (F0 m (pc + 3) ls rest)) : W p l e R s m args below meth c H locs cells slots Q (F0 m pc ls (.int (nI n) :: .ref (ad L k) :: rest)) := by
  have hll : l'.length = n := by rw [hl]; simp
  have hph : ph (up σ k l') (fun i => if i = k then ph σ J k else J i) k = ph σ J k := by
    funext i
    by_cases hi : i < n
    · rw [ph, if_pos (by rw [up_s, hll]; exact hi), up_s, hl, List.getD_eq_getElem?_getD, List.getElem?_map, List.getElem?_range hi]
      rfl
    · rw [ph, if_neg (by rw [up_s, hll]; exact hi), if_pos rfl]
  refine pf S hI hK (J' := fun i => if i = k then ph σ J k else J i) h (ci := 4) (C := RX4) (T := TX4) (N := 2) (ty := .int) rfl i_wsX40 tyX4 tyX4_ok nmX4 (cnt_4 hk) (kd_of hk) 1 (by decide) (by decide +kernel) rfl rfl rfl (by simp) (wok_up h.1 (fun _ => by omega)) (by rw [cnt_4 hk, up_s, hll]; rfl) (fun j hj hjk => ?_) hq rfl hd (fun H1 locs1 h1 => kk H1 locs1 h1.hd)
  by_cases h9 : kd j = 9 ∧ j - 1 = k
  · rw [cnt_9 h9.1, cnt_9 h9.1, h9.2, hph]
  · exact cnt_upJ (fun i hi => if_neg hi) hj hjk (fun a b => h9 ⟨a, b⟩)
/-- an element of a row's array is written, below its length -/
theorem p_set {i : Nat} {x : Int32} (S : CallFix p m c cc nL s args qA own) (hI : Inj L) (hK : Kn L s) (h : Hd L H0 H σ locs) (hk : kd k = 4) (hi : i < (σ k).length) (hd : decode cc pc = .ok (.iastore, 1)) (kk : ∀ (H1 : Heap) (locs1 : List Loc), Hd L H0 H1 (up σ k ((σ k).set i x)) locs1 → W p l e R s m args below meth c H1 locs1 cells slots Q (F0 m (pc + 1) ls rest)) : W p l e R s m args below meth c H locs cells slots Q (F0 m pc ls (.int x :: .int (nI i) :: .ref (ad L (k+1)) :: rest)) := by
  obtain ⟨J, hJ⟩ := h.J
  have h9 := kd_4n k (kd_of hk) hk
  have hc := h.ok k hk
  have h200 := h.ok.len hk
  refine va_iast (D := L.1) (n := cp k) (f := ph σ J k) S.1 S.2.1 hK.1 hJ.2.1 (hI.D σ J) hJ.2.2 (k+1) 0 (by rw [wld_at h9.2, cnt_9 h9.1]; rfl) rfl (vp_in_nI (by omega) (by have := cp_le k (kd_of hk); omega)) hd (fun H1 locs1 hP1 _ hS1 => kk H1 locs1 ⟨⟨wok_up h.ok (fun _ => by rw [List.length_set]; exact hc), J, ?_⟩, hS1⟩)
  rw [nI_clamp (by omega)] at hP1
  rw [wld_set (σ' := up σ k ((σ k).set i x)) (J' := J) h9.2 ?_ ?_] at hP1
  · exact hP1
  · rw [cnt_9 h9.1]
    simp only [Nat.add_sub_cancel]
    congr 4
    funext j
    unfold ph upd
    rw [up_s, List.length_set]
    by_cases hj : j < (σ k).length
    · rw [if_pos hj]
      show _ = if j = i then x else (if j < (σ k).length then (σ k).getD j 0 else J k j)
      by_cases hji : j = i
      · subst hji
        rw [if_pos rfl, List.getD_eq_getElem?_getD, List.getElem?_set_self hj]
        rfl
      · rw [if_neg hji, if_pos hj, List.getD_eq_getElem?_getD, List.getD_eq_getElem?_getD, List.getElem?_set_ne (Ne.symm hji)]
    · show _ = if j = i then x else (if j < (σ k).length then (σ k).getD j 0 else J k j)
      rw [if_neg hj, if_neg (by omega), if_neg hj]
  · intro j hj hjk
    by_cases hjk2 : j = k
    · subst hjk2
      rw [cnt_4 hk, cnt_4 hk, up_s, List.length_set]
    · exact cnt_up hj hjk2 (fun _ q => hjk (by omega))
/-- an element of a row's array is written, at its length or behind -/
theorem p_setJ {i : Nat} {x : Int32} (S : CallFix p m c cc nL s args qA own) (hI : Inj L) (hK : Kn L s) {J : Nat → Nat → Int32} (h : HdJ L H0 H σ J locs) (hk : kd k = 4) (hi : (σ k).length ≤ i) (hi2 : i < cp k) (hd : decode cc pc = .ok (.iastore, 1)) (kk : ∀ (H1 : Heap) (locs1 : List Loc), HdJ L H0 H1 σ (fun q => if q = k then upd (J k) i x else J q) locs1 → W p l e R s m args below meth c H1 locs1 cells slots Q (F0 m (pc + 1) ls rest)) : W p l e R s m args below meth c H locs cells slots Q (F0 m pc ls (.int x :: .int (nI i) :: .ref (ad L (k+1)) :: rest)) := by
  have h9 := kd_4n k (kd_of hk) hk
  refine va_iast (D := L.1) (n := cp k) (f := ph σ J k) S.1 S.2.1 hK.1 h.2.1 (hI.D σ J) h.2.2 (k+1) 0 (by rw [wld_at h9.2, cnt_9 h9.1]; rfl) rfl (vp_in_nI (by omega) (by have := cp_le k (kd_of hk); omega)) hd (fun H1 locs1 hP1 _ hS1 => kk H1 locs1 ⟨h.1, ?_, hS1⟩)
  have hcp := cp_le k (kd_of hk)
  rw [nI_clamp (by omega)] at hP1
  rw [wld_set (σ' := σ) (J' := fun q => if q = k then upd (J k) i x else J q) h9.2 ?_ ?_] at hP1
  · exact hP1
  · rw [cnt_9 h9.1]
    simp only [Nat.add_sub_cancel]
    congr 4
    funext j
    unfold ph
    by_cases hj : j < (σ k).length
    · rw [if_pos hj, upd, if_neg (by omega), if_pos hj]
    · rw [if_neg hj]
      show (if k = k then upd (J k) i x else J k) j = if j = i then x else (if j < (σ k).length then (σ k).getD j 0 else J k j)
      rw [if_pos rfl, if_neg hj]
      rfl
  · intro j hj hjk
    have e : up σ k (σ k) = σ := up_id rfl
    have hz : ∀ i', i' ≠ k → (fun q => if q = k then upd (J k) i x else J q) i' = J i' := fun i' hi' => if_neg hi'
    by_cases hjk2 : j = k
    · subst hjk2
      rw [cnt_4 hk, cnt_4 hk]
    · have := cnt_upJ (L := L) (σ := σ) (l := σ k) hz hj hjk2 (fun _ q => hjk (by omega))
      rw [e] at this
      exact this
/-- an element of a row's array is read, below its length -/
theorem g_el {i : Nat} (S : CallFix p m c cc nL s args qA own) (hK : Kn L s) (h : Hd L H0 H σ locs) (hk : kd k = 4) (hi : i < (σ k).length) (hd : decode cc pc = .ok (.iaload, 1)) (kk : W p l e R s m args below meth c H locs cells slots Q (F0 m (pc + 1) ls (.int ((σ k).getD i 0) :: rest))) : W p l e R s m args below meth c H locs cells slots Q (F0 m pc ls (.int (nI i) :: .ref (ad L (k+1)) :: rest)) := by
  obtain ⟨J, hJ⟩ := h.J
  have h9 := kd_4n k (kd_of hk) hk
  have hc := h.ok k hk
  have h200 := h.ok.len hk
  refine va_iald (D := L.1) (n := cp k) (f := ph σ J k) S.1 S.2.1 hK.1 hJ.2.1 (k+1) 0 (by rw [wld_at h9.2, cnt_9 h9.1]; rfl) rfl (vp_in_nI (by omega) (by have := cp_le k (kd_of hk); omega)) hd ?_
  rw [nI_clamp (by omega), ph, if_pos hi]
  exact kk
theorem g_alen (S : CallFix p m c cc nL s args qA own) (hK : Kn L s) (h : Hd L H0 H σ locs) (hk : kd k = 4) (hd : decode cc pc = .ok (.arraylength, 1)) (kk : W p l e R s m args below meth c H locs cells slots Q (F0 m (pc + 1) ls (.int (nI (cp k)) :: rest))) : W p l e R s m args below meth c H locs cells slots Q (F0 m pc ls (.ref (ad L (k+1)) :: rest)) := by
  obtain ⟨J, hJ⟩ := h.J
  have h9 := kd_4n k (kd_of hk) hk
  exact va_alen (D := L.1) (x := (cp k, .inl (ph σ J k))) S.1 S.2.1 hK.1 hJ.2.1 (k+1) 0 (by rw [wld_at h9.2, cnt_9 h9.1]; rfl) rfl rfl hd kk
end QROWS2

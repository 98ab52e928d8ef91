theorem kd3_v : ∀ {k : Nat}, kd k = 3 → kd (k + 1) = 4 := fun {k} h => (show ∀ k, k < 245 → kd k = 3 → kd (k + 1) = 4 from by decide +kernel) k (kd_of h) h
theorem kd6_w : ∀ {k : Nat}, kd k = 6 → kd (k + 1) = 4 := fun {k} h => (show ∀ k, k < 245 → kd k = 6 → kd (k + 1) = 4 from by decide +kernel) k (kd_of h) h
theorem kd5_s {k : Nat} (h : kd k = 5) : kd (k + 1) = 4 := (kd_5h k (kd_of h) h).1
theorem kd5_1 {k : Nat} (h : kd k = 5) : kd (k + 3) = 0 := (kd_5h k (kd_of h) h).2.1
theorem kd5_2 {k : Nat} (h : kd k = 5) : kd (k + 17) = 0 := (kd_5h k (kd_of h) h).2.2.1
theorem kd5_3 {k : Nat} (h : kd k = 5) : kd (k + 31) = 0 := (kd_5h k (kd_of h) h).2.2.2.1
theorem z_or (P : Prop) [Decidable P] : (if P then (1 : Int32) else 0) = 0 ∨ (if P then (1 : Int32) else 0) = 1 := by
  by_cases h : P
  · exact Or.inr (if_pos h)
  · exact Or.inl (if_neg h)
theorem Hd.to {L : Lay} {H0 H : Heap} {σ σ' : St} {locs : List Loc} (h : Hd L H0 H σ locs) (e : σ = σ') : Hd L H0 H σ' locs := e ▸ h
section QM
variable {p : Program} {l : Launch} {e : Env} {R : Room} {s : State} {m : MethodId} {args : Array Value} {below : List Frame} {meth : Method} {c : Code} {H : Heap} {locs : List Loc} {cells slots : Nat} {Q : State → Prop}
variable {cc : ByteArray} {pc tgt nL index : Nat} {off : Int} {own : String} {ls : Array Slot} {rest st0 : List Value} {L : Lay} {H0 : Heap} {σ σ' : St} {k : Nat}
theorem cv_i {x y : Int32} (h : x = y) (kk : W p l e R s m args below meth c H locs cells slots Q (F0 m pc ls (.int y :: rest))) : W p l e R s m args below meth c H locs cells slots Q (F0 m pc ls (.int x :: rest)) := h ▸ kk
theorem cv_l {x y : Int64} (h : x = y) (kk : W p l e R s m args below meth c H locs cells slots Q (F0 m pc ls (.long y :: rest))) : W p l e R s m args below meth c H locs cells slots Q (F0 m pc ls (.long x :: rest)) := h ▸ kk
theorem iinc_k (a b : Nat) : nI a + Int32.ofInt (b : Int) = nI (a + b) := by
  rw [← nI_add]
  rfl
theorem lv_lcmpv (hx : p.tables.exec = Jvm.exec) (hb : c.code = cc) {x y : Int64} (hd : decode cc pc = .ok (.lcmp, 1)) (kk : W p l e R s m args below meth c H locs cells slots Q (F0 m (pc + 1) ls (.int (lg_cmp x y) :: rest))) : W p l e R s m args below meth c H locs cells slots Q (F0 m pc ls (.long y :: .long x :: rest)) := W.lcmp hx hb hd kk
theorem lc_le (hx : p.tables.exec = Jvm.exec) (hb : c.code = cc) {x y : Int64} (hd : decode cc pc = .ok (.ifCond .le off, 3)) (ht : (pc : Int) + off = (tgt : Int)) (kt : x ≤ y → W p l e R s m args below meth c H locs cells slots Q (F0 m tgt ls rest)) (kf : y < x → W p l e R s m args below meth c H locs cells slots Q (F0 m (pc + 3) ls rest)) : W p l e R s m args below meth c H locs cells slots Q (F0 m pc ls (.int (lg_cmp x y) :: rest)) :=
  lv_if_le hx hb hd ht (fun h => kt ((lg_cmp_le x y).mp h)) (fun h => kf (Int64.not_le.mp fun q => h ((lg_cmp_le x y).mpr q)))
theorem lc_gt (hx : p.tables.exec = Jvm.exec) (hb : c.code = cc) {x y : Int64} (hd : decode cc pc = .ok (.ifCond .gt off, 3)) (ht : (pc : Int) + off = (tgt : Int)) (kt : y < x → W p l e R s m args below meth c H locs cells slots Q (F0 m tgt ls rest)) (kf : x ≤ y → W p l e R s m args below meth c H locs cells slots Q (F0 m (pc + 3) ls rest)) : W p l e R s m args below meth c H locs cells slots Q (F0 m pc ls (.int (lg_cmp x y) :: rest)) :=
  lv_if_gt hx hb hd ht (fun h => kt (Int64.not_le.mp fun q => absurd ((lg_cmp_le x y).mpr q) (Int32.not_le.mpr h))) (fun h => kf ((lg_cmp_le x y).mp (Int32.not_lt.mp h)))
theorem lc_lt (hx : p.tables.exec = Jvm.exec) (hb : c.code = cc) {x y : Int64} (hd : decode cc pc = .ok (.ifCond .lt off, 3)) (ht : (pc : Int) + off = (tgt : Int)) (kt : x < y → W p l e R s m args below meth c H locs cells slots Q (F0 m tgt ls rest)) (kf : y ≤ x → W p l e R s m args below meth c H locs cells slots Q (F0 m (pc + 3) ls rest)) : W p l e R s m args below meth c H locs cells slots Q (F0 m pc ls (.int (lg_cmp x y) :: rest)) :=
  lv_if_lt hx hb hd ht (fun h => kt ((lg_cmp_lt x y).mp h)) (fun h => kf (Int64.not_lt.mp fun q => h ((lg_cmp_lt x y).mpr q)))
theorem lc_ge (hx : p.tables.exec = Jvm.exec) (hb : c.code = cc) {x y : Int64} (hd : decode cc pc = .ok (.ifCond .ge off, 3)) (ht : (pc : Int) + off = (tgt : Int)) (kt : y ≤ x → W p l e R s m args below meth c H locs cells slots Q (F0 m tgt ls rest)) (kf : x < y → W p l e R s m args below meth c H locs cells slots Q (F0 m (pc + 3) ls rest)) : W p l e R s m args below meth c H locs cells slots Q (F0 m pc ls (.int (lg_cmp x y) :: rest)) :=
  lv_if_ge hx hb hd ht (fun h => kt (Int64.not_lt.mp fun q => absurd ((lg_cmp_lt x y).mpr q) (Int32.not_lt.mpr h))) (fun h => kf ((lg_cmp_lt x y).mp (Int32.not_le.mp h)))
theorem p_lenA {n : Nat} (S : CallFix p m c cc nL s args qA own) (hI : Inj L) (hK : Kn L s) (h : Hd L H0 H σ locs) (hk : kd k = 4) (hn : n ≤ cp k) (hq : Cond.fieldLink own index "QuantileDigests$Row" "length" "I" ∈ qA) (hd : decode cc pc = .ok (.putfield index, 3)) (kk : ∀ (l' : List Int32), l'.length = n → ∀ (H1 : Heap) (locs1 : List Loc), Hd L H0 H1 (up σ k l') locs1 → W p l e R s m args below meth c H1 locs1 cells slots Q (F0 m (pc + 3) ls rest)) : W p l e R s m args below meth c H locs cells slots Q (F0 m pc ls (.int (nI n) :: .ref (ad L k) :: rest)) := by
  obtain ⟨J, hJ⟩ := h.J
  exact p_lenJ S hI hK hJ hk hn rfl hq hd (kk _ (by simp))
theorem p_lenT {n : Nat} (S : CallFix p m c cc nL s args qA own) (hI : Inj L) (hK : Kn L s) (h : Hd L H0 H σ locs) (hk : kd k = 4) (hn : n ≤ (σ k).length) (hq : Cond.fieldLink own index "QuantileDigests$Row" "length" "I" ∈ qA) (hd : decode cc pc = .ok (.putfield index, 3)) (kk : ∀ (H1 : Heap) (locs1 : List Loc), Hd L H0 H1 (up σ k ((σ k).take n)) locs1 → W p l e R s m args below meth c H1 locs1 cells slots Q (F0 m (pc + 3) ls rest)) : W p l e R s m args below meth c H locs cells slots Q (F0 m pc ls (.int (nI n) :: .ref (ad L k) :: rest)) := by
  obtain ⟨J, hJ⟩ := h.J
  refine p_lenJ S hI hK hJ hk (Nat.le_trans hn (h.ok k hk)) ?_ hq hd kk
  apply List.ext_getElem?
  intro i
  by_cases hi : i < n
  · rw [List.getElem?_take_of_lt hi, List.getElem?_map, List.getElem?_range hi]
    show _ = some (ph σ J k i)
    rw [ph, if_pos (by omega), List.getD_eq_getElem?_getD, List.getElem?_eq_getElem (by omega)]
    rfl
  · rw [List.getElem?_eq_none_iff.mpr (by rw [List.length_take]; omega), List.getElem?_eq_none_iff.mpr (by simp; omega)]
theorem p_lenP {x : Int32} (S : CallFix p m c cc nL s args qA own) (hI : Inj L) (hK : Kn L s) {J : Nat → Nat → Int32} (h : HdJ L H0 H σ (fun q => if q = k then upd (J k) (σ k).length x else J q) locs) (hk : kd k = 4) (hn : (σ k).length + 1 ≤ cp k) (hq : Cond.fieldLink own index "QuantileDigests$Row" "length" "I" ∈ qA) (hd : decode cc pc = .ok (.putfield index, 3)) (kk : ∀ (H1 : Heap) (locs1 : List Loc), Hd L H0 H1 (up σ k (σ k ++ [x])) locs1 → W p l e R s m args below meth c H1 locs1 cells slots Q (F0 m (pc + 3) ls rest)) : W p l e R s m args below meth c H locs cells slots Q (F0 m pc ls (.int (nI ((σ k).length + 1)) :: .ref (ad L k) :: rest)) := by
  refine p_lenJ S hI hK h hk hn ?_ hq hd kk
  apply List.ext_getElem?
  intro i
  by_cases hi : i < (σ k).length + 1
  · rw [List.getElem?_map, List.getElem?_range hi]
    show _ = some (ph σ _ k i)
    unfold ph
    by_cases h2 : i < (σ k).length
    · rw [if_pos h2, List.getElem?_append_left h2, List.getD_eq_getElem?_getD, List.getElem?_eq_getElem h2]
      rfl
    · have e : i = (σ k).length := by omega
      subst e
      rw [if_neg h2, List.getElem?_append_right (Nat.le_refl _), Nat.sub_self]
      show _ = some ((if k = k then upd (J k) (σ k).length x else J k) (σ k).length)
      rw [if_pos rfl]
      simp [upd]
  · rw [List.getElem?_eq_none_iff.mpr (by simp; omega), List.getElem?_eq_none_iff.mpr (by simp; omega)]
theorem p_copy {k2 n : Nat} (S : CallFix p m c cc nL s args qA own) (hI : Inj L) (hK : Kn L s) (h : Hd L H0 H σ locs) (hml : c.maxLocals = ls.size) (hk2 : kd k2 = 4) (hk : kd k = 4) (hkk : k2 ≠ k) (hn2 : n ≤ (σ k2).length) (hn : (σ k).length = n) (w1 : Cond.methodLink own index arraycopyName ∈ qA) (w2 : Cond.native arraycopyName ∈ qA) (w3 : Cond.static arraycopyName ∈ qA) (w4 : Cond.initialized RJ10 ∈ qA) (hfr : 1 ≤ R.frames) (hlo : (rest.map fun v => v.category).sum + (nativeFrameWords "java/lang/System" "arraycopy" 5 + 11) ≤ R.locals) (hd : decode cc pc = .ok (.invokestatic index, 3))
    (kk : ∀ (H1 : Heap) (locs1 : List Loc), Hd L H0 H1 (up σ k ((σ k2).take n)) locs1 → W p l e R s m args below meth c H1 locs1 cells slots Q (F0 m (pc + 3) ls rest)) : W p l e R s m args below meth c H locs cells slots Q (F0 m pc ls (.int (nI n) :: .int (nI 0) :: .ref (ad L (k+1)) :: .int (nI 0) :: .ref (ad L (k2+1)) :: rest)) := by
  obtain ⟨J, hJ⟩ := h.J
  have h9 := kd_4n k (kd_of hk) hk
  have h92 := kd_4n k2 (kd_of hk2) hk2
  have hc := h.ok k hk
  have hc2 := h.ok k2 hk2
  have h200 := h.ok.len hk
  have z0 : (nI 0).toNatClampNeg = 0 := nI_clamp (by omega)
  have zn : (nI n).toNatClampNeg = n := nI_clamp (by omega)
  refine va_copyi (D := L.1) (n0 := cp k2) (n1 := cp k) (f := ph σ J k2) (g := ph σ J k) (ty := .int) S.1 S.2.1 hml S.2.2.2.1 (S.2.2.2.2 _ w1) (S.2.2.2.2 _ w2) (S.2.2.2.2 _ w3) (S.2.2.2.2 _ w4) hK.1 hJ.2.1 (hI.D σ J) hJ.2.2 (k2+1) (k+1) 0 0 (by rw [wld_at h92.2, cnt_9 h92.1]; rfl) (by rw [wld_at h9.2, cnt_9 h9.1]; rfl) rfl rfl rfl (nI_pos (by omega)) (nI_pos (by omega)) (nI_pos (by omega)) (by rw [z0, zn]; omega) (by rw [z0, zn]; omega) (fun _ _ => rfl) hfr hlo hd (fun H1 locs1 hP1 _ hS1 => kk H1 locs1 ⟨⟨wok_up h.ok (fun _ => by rw [List.length_take]; omega), J, ?_⟩, hS1⟩)
  rw [z0, zn] at hP1
  have hlt : ((σ k2).take n).length = n := by rw [List.length_take]; omega
  rw [wld_set (σ' := up σ k ((σ k2).take n)) (J' := J) h9.2 ?_ ?_] at hP1
  · exact hP1
  · rw [cnt_9 h9.1]
    simp only [Nat.add_sub_cancel]
    congr 4
    funext j
    by_cases hj : j < n
    · rw [pk_cpy_in (by omega) (by omega), ph, if_pos (by rw [up_s, hlt]; exact hj), up_s, ph, if_pos (by omega), List.getD_eq_getElem?_getD, List.getD_eq_getElem?_getD, List.getElem?_take_of_lt hj, Nat.zero_add, Nat.sub_zero]
    · rw [pk_cpy_out (by omega), ph, if_neg (by rw [up_s, hlt]; exact hj), ph, if_neg (by omega)]
  · intro j hj hjk
    by_cases hjk2 : j = k
    · subst hjk2
      rw [cnt_4 hk, cnt_4 hk, up_s, hlt, hn]
    · exact cnt_up hj hjk2 (fun _ q => hjk (by omega))
end QM
/-! what a row's methods make of its ints -/
def swp {α : Type} (d : α) (l : List α) (i j : Nat) : List α := (l.set i (l.getD j d)).set j (l.getD i d)
def sift {α : Type} (d : α) (gt : α → α → Bool) : Nat → List α → List α
  | 0, l => l
  | i + 1, l => if gt (l.getD i d) (l.getD (i + 1) d) then sift d gt i (swp d l i (i + 1)) else l
def gtI (a b : Int32) : Bool := decide (b < a)
def ins (l : List Int32) (v : Int32) : List Int32 := sift 0 gtI l.length (l ++ [v])
def isum (l : List Int32) : Nat → Int32
  | 0 => 0
  | n + 1 => isum l n + l.getD n 0
def imin (l : List Int32) : Nat → Int32
  | 0 => 2147483647
  | n + 1 => if l.getD n 0 < imin l n then l.getD n 0 else imin l n
def imax (l : List Int32) : Nat → Int32
  | 0 => -2147483648
  | n + 1 => if imax l n < l.getD n 0 then l.getD n 0 else imax l n
theorem swp_len {α : Type} {d : α} {l : List α} {i j : Nat} : (swp d l i j).length = l.length := by simp [swp]
theorem sift_len {α : Type} {d : α} {gt : α → α → Bool} : ∀ (i : Nat) (l : List α), (sift d gt i l).length = l.length
  | 0, _ => rfl
  | i + 1, l => by
    unfold sift
    split
    · rw [sift_len i, swp_len]
    · rfl
theorem ins_len {l : List Int32} {v : Int32} : (ins l v).length = l.length + 1 := by rw [ins, sift_len]; simp

theorem up_of {σ σ1 : St} {k : Nat} {l : List Int32} (hu : up σ k (σ1 k) = σ1) : up σ k l = up σ1 k l := by
  funext j
  by_cases h : j = k
  · rw [h, up_s, up_s]
  · rw [up_n h, up_n h]
    have := congrFun hu j
    rw [up_n h] at this
    exact this
theorem take_snoc {α : Type} {d : α} {l : List α} {i : Nat} (h : i < l.length) : l.take i ++ [l.getD i d] = l.take (i + 1) := by
  rw [List.take_succ_eq_append_getElem h, List.getD_eq_getElem?_getD, List.getElem?_eq_getElem h]
  rfl
abbrev rX4_length : Room := { frames := 0, cells := 0, slots := 0, locals := 0 }
theorem yd_X4_length : ydV yX4_length RX4 0 := ⟨rfl, by decide +kernel, by decide +kernel, by decide +kernel⟩
set_option maxHeartbeats 4000000 in
set_option maxRecDepth 100000 in
theorem c_X4_length (l : Launch) (L : Lay) (σ : St) {k : Nat} (hk : kd k = 4) : Mf l L yX4_length (Cond.code yX4_length cX4_length 1 (some FieldType.int) :: qA) rX4_length [.ref (ad L k)] σ (some (.int (nI ((σ k).length)))) σ := by
  refine Mf.ofW (by decide) (Nat.le_of_ble_eq_true rfl) ?_
  intro p e s m args below meth c ls post hp hI S hr hlk hK h hl
  have hx := S.1
  have hb := S.2.1
  have hok := h.ok
  have hl : lv_has ls 1 [(0, .ref (ad L k))] := hl
  refine lv_aload_n hx hb dX4_length_0 rfl (lv_at hl 0 rfl) ?_
  refine g_len S hK h hk q_35 dX4_length_1 ?_
  exact e_i S hK h hr hlk dX4_length_4 hp

abbrev rX4_at : Room := { frames := 0, cells := 0, slots := 0, locals := 0 }
theorem yd_X4_at : ydV yX4_at RX4 1 := ⟨rfl, by decide +kernel, by decide +kernel, by decide +kernel⟩
set_option maxHeartbeats 4000000 in
set_option maxRecDepth 100000 in
theorem c_X4_at (l : Launch) (L : Lay) (σ : St) {k j : Nat} (hk : kd k = 4) (hj : j < 2 ^ 31) : Mf l L yX4_at (Cond.code yX4_at cX4_at 2 (some FieldType.int) :: qA) rX4_at [.ref (ad L k), .int (nI j)] σ (some (.int ((σ k).getD j 0))) σ := by
  refine Mf.ofW (by decide) (Nat.le_of_ble_eq_true rfl) ?_
  intro p e s m args below meth c ls post hp hI S hr hlk hK h hl
  have hx := S.1
  have hb := S.2.1
  have hok := h.ok
  have hl : lv_has ls 2 [(0, .ref (ad L k)), (1, .int (nI j))] := hl
  have h200 := hok.len hk
  refine lv_iload_n hx hb dX4_at_0 rfl (lv_at hl 1 rfl) ?_
  refine b_if_lt (tgt := 21) hx hb dX4_at_1 (by decide) (by omega) ?_
  refine lv_iload_n hx hb dX4_at_4 rfl (lv_at hl 1 rfl) ?_
  refine lv_aload_n hx hb dX4_at_5 rfl (lv_at hl 0 rfl) ?_
  refine g_len S hK h hk q_35 dX4_at_6 ?_
  refine b_icmp_ge (tgt := 21) hx hb dX4_at_9 (by decide) (by omega) (by omega) (fun c_9 => ?_) (fun c_9 => ?_)
  · rw [show (σ k).getD j 0 = 0 from by rw [List.getD_eq_getElem?_getD, List.getElem?_eq_none_iff.mpr c_9]; rfl] at hp
    refine lv_iconst (v := (nI 0)) hx hb dX4_at_21 (by decide) ?_
    exact e_i S hK h hr hlk dX4_at_22 hp
  · refine lv_aload_n hx hb dX4_at_12 rfl (lv_at hl 0 rfl) ?_
    refine g_cells S hK h hk q_34 dX4_at_13 ?_
    refine lv_iload_n hx hb dX4_at_16 rfl (lv_at hl 1 rfl) ?_
    refine g_el S hK h hk (by omega) dX4_at_17 ?_
    refine lv_goto (tgt := 22) hx hb dX4_at_18 (by decide) ?_
    exact e_i S hK h hr hlk dX4_at_22 hp

abbrev rX4_put : Room := { frames := 0, cells := 0, slots := 0, locals := 0 }
theorem yd_X4_put : ydV yX4_put RX4 2 := ⟨rfl, by decide +kernel, by decide +kernel, by decide +kernel⟩
set_option maxHeartbeats 4000000 in
set_option maxRecDepth 100000 in
theorem c_X4_put (l : Launch) (L : Lay) (σ : St) {k j : Nat} (hk : kd k = 4) (hj : j < 2 ^ 31) (v : Int32) : Mf l L yX4_put (Cond.code yX4_put cX4_put 3 none :: qA) rX4_put [.ref (ad L k), .int (nI j), .int v] σ none (up σ k ((σ k).set j v)) := by
  refine Mf.ofW (by decide) (Nat.le_of_ble_eq_true rfl) ?_
  intro p e s m args below meth c ls post hp hI S hr hlk hK h hl
  have hx := S.1
  have hb := S.2.1
  have hok := h.ok
  have hl : lv_has ls 3 [(0, .ref (ad L k)), (1, .int (nI j)), (2, .int v)] := hl
  have h200 := hok.len hk
  refine lv_iload_n hx hb dX4_put_0 rfl (lv_at hl 1 rfl) ?_
  refine b_if_lt (tgt := 19) hx hb dX4_put_1 (by decide) (by omega) ?_
  refine lv_iload_n hx hb dX4_put_4 rfl (lv_at hl 1 rfl) ?_
  refine lv_aload_n hx hb dX4_put_5 rfl (lv_at hl 0 rfl) ?_
  refine g_len S hK h hk q_35 dX4_put_6 ?_
  refine b_icmp_ge (tgt := 19) hx hb dX4_put_9 (by decide) (by omega) (by omega) (fun c_9 => ?_) (fun c_9 => ?_)
  · rw [List.set_eq_of_length_le c_9, up_id rfl] at hp
    exact e_v S hK h hr hlk dX4_put_19 hp
  · refine lv_aload_n hx hb dX4_put_12 rfl (lv_at hl 0 rfl) ?_
    refine g_cells S hK h hk q_34 dX4_put_13 ?_
    refine lv_iload_n hx hb dX4_put_16 rfl (lv_at hl 1 rfl) ?_
    refine lv_iload_n hx hb dX4_put_17 rfl (lv_at hl 2 rfl) ?_
    refine p_set S hI hK h hk (by omega) dX4_put_18 (fun H locs h => ?_)
    exact e_v S hK h hr hlk dX4_put_19 hp

abbrev rX4_append : Room := { frames := 0, cells := 0, slots := 0, locals := 0 }
theorem yd_X4_append : ydV yX4_append RX4 1 := ⟨rfl, by decide +kernel, by decide +kernel, by decide +kernel⟩
set_option maxHeartbeats 4000000 in
set_option maxRecDepth 100000 in
theorem c_X4_append (l : Launch) (L : Lay) (σ : St) {k : Nat} (hk : kd k = 4) (hc : (σ k).length < cp k) (v : Int32) : Mf l L yX4_append (Cond.code yX4_append cX4_append 2 none :: qA) rX4_append [.ref (ad L k), .int v] σ none (up σ k (σ k ++ [v])) := by
  refine Mf.ofW (by decide) (Nat.le_of_ble_eq_true rfl) ?_
  intro p e s m args below meth c ls post hp hI S hr hlk hK h hl
  have hx := S.1
  have hb := S.2.1
  have hok := h.ok
  have hl : lv_has ls 2 [(0, .ref (ad L k)), (1, .int v)] := hl
  have h200 := hok.len hk
  have hcp := cp_le k (kd_of hk)
  obtain ⟨J, hJ⟩ := h.J
  refine lv_aload_n hx hb dX4_append_0 rfl (lv_at hl 0 rfl) ?_
  refine g_len S hK h hk q_35 dX4_append_1 ?_
  refine lv_aload_n hx hb dX4_append_4 rfl (lv_at hl 0 rfl) ?_
  refine g_cells S hK h hk q_34 dX4_append_5 ?_
  refine g_alen S hK h hk dX4_append_8 ?_
  refine b_icmp_ge (tgt := 32) hx hb dX4_append_9 (by decide) (by omega) (by omega) (fun c_9 => absurd c_9 (by omega)) (fun c_9 => ?_)
  refine lv_aload_n hx hb dX4_append_12 rfl (lv_at hl 0 rfl) ?_
  refine g_cells S hK h hk q_34 dX4_append_13 ?_
  refine lv_aload_n hx hb dX4_append_16 rfl (lv_at hl 0 rfl) ?_
  refine g_len S hK h hk q_35 dX4_append_17 ?_
  refine lv_iload_n hx hb dX4_append_20 rfl (lv_at hl 1 rfl) ?_
  refine p_setJ S hI hK hJ hk (Nat.le_refl _) hc dX4_append_21 (fun H locs hJ => ?_)
  have h := hJ.hd
  refine lv_aload_n hx hb dX4_append_22 rfl (lv_at hl 0 rfl) ?_
  refine lv_dup hx hb dX4_append_23 rfl ?_
  refine g_len S hK h hk q_35 dX4_append_24 ?_
  refine lv_iconst (v := (nI 1)) hx hb dX4_append_27 (by decide) ?_
  refine a_iadd hx hb dX4_append_28 ?_
  refine p_lenP S hI hK hJ hk hc q_35 dX4_append_29 (fun H locs h => ?_)
  exact e_v S hK h hr hlk dX4_append_32 hp

abbrev rX4_empty : Room := { frames := 0, cells := 0, slots := 0, locals := 0 }
theorem yd_X4_empty : ydV yX4_empty RX4 0 := ⟨rfl, by decide +kernel, by decide +kernel, by decide +kernel⟩
set_option maxHeartbeats 4000000 in
set_option maxRecDepth 100000 in
theorem c_X4_empty (l : Launch) (L : Lay) (σ : St) {k : Nat} (hk : kd k = 4) : Mf l L yX4_empty (Cond.code yX4_empty cX4_empty 1 none :: qA) rX4_empty [.ref (ad L k)] σ none (up σ k []) := by
  refine Mf.ofW (by decide) (Nat.le_of_ble_eq_true rfl) ?_
  intro p e s m args below meth c ls post hp hI S hr hlk hK h hl
  have hx := S.1
  have hb := S.2.1
  have hok := h.ok
  have hl : lv_has ls 1 [(0, .ref (ad L k))] := hl
  obtain ⟨J, hJ⟩ := h.J
  refine lv_aload_n hx hb dX4_empty_0 rfl (lv_at hl 0 rfl) ?_
  refine lv_iconst (v := (nI 0)) hx hb dX4_empty_1 (by decide) ?_
  refine p_lenJ (n := 0) (l' := ([] : List Int32)) S hI hK hJ hk (Nat.zero_le _) rfl q_35 dX4_empty_2 (fun H locs h => ?_)
  exact e_v S hK h hr hlk dX4_empty_5 hp

abbrev rX4_shortenTo : Room := { frames := 0, cells := 0, slots := 0, locals := 0 }
theorem yd_X4_shortenTo : ydV yX4_shortenTo RX4 1 := ⟨rfl, by decide +kernel, by decide +kernel, by decide +kernel⟩
set_option maxHeartbeats 4000000 in
set_option maxRecDepth 100000 in
theorem c_X4_shortenTo (l : Launch) (L : Lay) (σ : St) {k n : Nat} (hk : kd k = 4) (hn : n < 2 ^ 31) : Mf l L yX4_shortenTo (Cond.code yX4_shortenTo cX4_shortenTo 2 none :: qA) rX4_shortenTo [.ref (ad L k), .int (nI n)] σ none (up σ k ((σ k).take n)) := by
  refine Mf.ofW (by decide) (Nat.le_of_ble_eq_true rfl) ?_
  intro p e s m args below meth c ls post hp hI S hr hlk hK h hl
  have hx := S.1
  have hb := S.2.1
  have hok := h.ok
  have hl : lv_has ls 2 [(0, .ref (ad L k)), (1, .int (nI n))] := hl
  have h200 := hok.len hk
  refine lv_iload_n hx hb dX4_shortenTo_0 rfl (lv_at hl 1 rfl) ?_
  refine b_if_lt (tgt := 17) hx hb dX4_shortenTo_1 (by decide) (by omega) ?_
  refine lv_iload_n hx hb dX4_shortenTo_4 rfl (lv_at hl 1 rfl) ?_
  refine lv_aload_n hx hb dX4_shortenTo_5 rfl (lv_at hl 0 rfl) ?_
  refine g_len S hK h hk q_35 dX4_shortenTo_6 ?_
  refine b_icmp_ge (tgt := 17) hx hb dX4_shortenTo_9 (by decide) (by omega) (by omega) (fun c_9 => ?_) (fun c_9 => ?_)
  · rw [List.take_of_length_le c_9, up_id rfl] at hp
    exact e_v S hK h hr hlk dX4_shortenTo_17 hp
  · refine lv_aload_n hx hb dX4_shortenTo_12 rfl (lv_at hl 0 rfl) ?_
    refine lv_iload_n hx hb dX4_shortenTo_13 rfl (lv_at hl 1 rfl) ?_
    refine p_lenT S hI hK h hk (Nat.le_of_lt c_9) q_35 dX4_shortenTo_14 (fun H locs h => ?_)
    exact e_v S hK h hr hlk dX4_shortenTo_17 hp

abbrev rX4_exchange : Room := { frames := 0, cells := 0, slots := 0, locals := 0 }
theorem yd_X4_exchange : ydV yX4_exchange RX4 2 := ⟨rfl, by decide +kernel, by decide +kernel, by decide +kernel⟩
set_option maxHeartbeats 4000000 in
set_option maxRecDepth 100000 in
theorem c_X4_exchange (l : Launch) (L : Lay) (σ : St) {k i j : Nat} (hk : kd k = 4) (hi : i < (σ k).length) (hj : j < (σ k).length) : Mf l L yX4_exchange (Cond.code yX4_exchange cX4_exchange 4 none :: qA) rX4_exchange [.ref (ad L k), .int (nI i), .int (nI j)] σ none (up σ k (swp 0 (σ k) i j)) := by
  refine Mf.ofW (by decide) (Nat.le_of_ble_eq_true rfl) ?_
  intro p e s m args below meth c ls post hp hI S hr hlk hK h hl
  have hx := S.1
  have hb := S.2.1
  have hok := h.ok
  have hl : lv_has ls 4 [(0, .ref (ad L k)), (1, .int (nI i)), (2, .int (nI j))] := hl
  have h200 := hok.len hk
  refine lv_iload_n hx hb dX4_exchange_0 rfl (lv_at hl 1 rfl) ?_
  refine b_if_lt (tgt := 50) hx hb dX4_exchange_1 (by decide) (by omega) ?_
  refine lv_iload_n hx hb dX4_exchange_4 rfl (lv_at hl 1 rfl) ?_
  refine lv_aload_n hx hb dX4_exchange_5 rfl (lv_at hl 0 rfl) ?_
  refine g_len S hK h hk q_35 dX4_exchange_6 ?_
  refine b_icmp_ge (tgt := 50) hx hb dX4_exchange_9 (by decide) (by omega) (by omega) (fun c_9 => absurd c_9 (by omega)) (fun c_9 => ?_)
  refine lv_iload_n hx hb dX4_exchange_12 rfl (lv_at hl 2 rfl) ?_
  refine b_if_lt (tgt := 50) hx hb dX4_exchange_13 (by decide) (by omega) ?_
  refine lv_iload_n hx hb dX4_exchange_16 rfl (lv_at hl 2 rfl) ?_
  refine lv_aload_n hx hb dX4_exchange_17 rfl (lv_at hl 0 rfl) ?_
  refine g_len S hK h hk q_35 dX4_exchange_18 ?_
  refine b_icmp_ge (tgt := 50) hx hb dX4_exchange_21 (by decide) (by omega) (by omega) (fun c_21 => absurd c_21 (by omega)) (fun c_21 => ?_)
  refine lv_aload_n hx hb dX4_exchange_24 rfl (lv_at hl 0 rfl) ?_
  refine g_cells S hK h hk q_34 dX4_exchange_25 ?_
  refine lv_iload_n hx hb dX4_exchange_28 rfl (lv_at hl 1 rfl) ?_
  refine g_el S hK h hk (by omega) dX4_exchange_29 ?_
  refine lv_istore_n (lv' := [(3, .int ((σ k).getD i 0)), (0, .ref (ad L k)), (1, .int (nI i)), (2, .int (nI j))]) hx hb dX4_exchange_30 rfl hl (by decide) rfl (fun ls hl => ?_)
  refine lv_aload_n hx hb dX4_exchange_31 rfl (lv_at hl 1 rfl) ?_
  refine g_cells S hK h hk q_34 dX4_exchange_32 ?_
  refine lv_iload_n hx hb dX4_exchange_35 rfl (lv_at hl 2 rfl) ?_
  refine lv_aload_n hx hb dX4_exchange_36 rfl (lv_at hl 1 rfl) ?_
  refine g_cells S hK h hk q_34 dX4_exchange_37 ?_
  refine lv_iload_n hx hb dX4_exchange_40 rfl (lv_at hl 3 rfl) ?_
  refine g_el S hK h hk (by omega) dX4_exchange_41 ?_
  refine p_set S hI hK h hk (by omega) dX4_exchange_42 (fun H locs h => ?_)
  have h := h.to (show up σ k ((σ k).set i ((σ k).getD j 0)) = up σ k ((σ k).set i ((σ k).getD j 0)) from rfl)
  refine lv_aload_n hx hb dX4_exchange_43 rfl (lv_at hl 1 rfl) ?_
  refine g_cells S hK h hk q_34 dX4_exchange_44 ?_
  refine lv_iload_n hx hb dX4_exchange_47 rfl (lv_at hl 3 rfl) ?_
  refine lv_iload_n hx hb dX4_exchange_48 rfl (lv_at hl 0 rfl) ?_
  refine p_set S hI hK h hk (by rw [up_s, List.length_set]; exact hj) dX4_exchange_49 (fun H locs h => ?_)
  exact e_v S hK h hr hlk dX4_exchange_50 (fin_p hp rfl (by rw [up_up, up_s]; rfl))

abbrev rX4_copyFrom : Room := { frames := 1, cells := 0, slots := 0, locals := 60 }
theorem yd_X4_copyFrom : ydV yX4_copyFrom RX4 1 := ⟨rfl, by decide +kernel, by decide +kernel, by decide +kernel⟩
set_option maxHeartbeats 4000000 in
set_option maxRecDepth 100000 in
theorem c_X4_copyFrom (l : Launch) (L : Lay) (σ : St) {k k2 : Nat} (hk : kd k = 4) (hk2 : kd k2 = 4) (hkk : k2 ≠ k) (hc : (σ k2).length ≤ cp k) : Mf l L yX4_copyFrom (Cond.code yX4_copyFrom cX4_copyFrom 2 none :: qA) rX4_copyFrom [.ref (ad L k), .ref (ad L k2)] σ none (up σ k (σ k2)) := by
  refine Mf.ofW (by decide) (Nat.le_of_ble_eq_true rfl) ?_
  intro p e s m args below meth c ls post hp hI S hr hlk hK h hl
  have hx := S.1
  have hb := S.2.1
  have hok := h.ok
  have hl : lv_has ls 2 [(0, .ref (ad L k)), (1, .ref (ad L k2))] := hl
  have h200 := hok.len hk2
  have hcp := cp_le k (kd_of hk)
  refine lv_aload_n hx hb dX4_copyFrom_0 rfl (lv_at hl 0 rfl) ?_
  refine lv_aload_n hx hb dX4_copyFrom_1 rfl (lv_at hl 1 rfl) ?_
  refine g_len S hK h hk2 q_35 dX4_copyFrom_2 ?_
  refine lv_aload_n hx hb dX4_copyFrom_5 rfl (lv_at hl 0 rfl) ?_
  refine g_cells S hK h hk q_34 dX4_copyFrom_6 ?_
  refine g_alen S hK h hk dX4_copyFrom_9 ?_
  refine va_mmin hx hb (S.2.2.1.trans hl.1.symm) S.2.2.2.1 (S.2.2.2.2 _ q_241) (S.2.2.2.2 _ q_242) (S.2.2.2.2 _ q_4) (S.2.2.2.2 _ q_243) (Nat.le_of_ble_eq_true rfl) (Nat.le_of_ble_eq_true rfl) (Nat.zero_le _) (Nat.zero_le _) dX4_copyFrom_10 ?_
  refine cv_i (show (if (nI (cp k)) < (nI ((σ k2).length)) then (nI (cp k)) else (nI ((σ k2).length)) : Int32) = nI ((σ k2).length) from (by rcases Nat.lt_or_ge (cp k) (σ k2).length with q | q; exact absurd q (by omega); exact if_neg (fun z => absurd ((nI_ltI (by omega) (by omega)).mp z) (by omega)))) ?_
  refine p_lenA S hI hK h hk hc q_35 dX4_copyFrom_13 (fun l' hl' H locs h => ?_)
  refine lv_aload_n hx hb dX4_copyFrom_16 rfl (lv_at hl 1 rfl) ?_
  refine g_cells S hK h hk2 q_34 dX4_copyFrom_17 ?_
  refine lv_iconst (v := (nI 0)) hx hb dX4_copyFrom_20 (by decide) ?_
  refine lv_aload_n hx hb dX4_copyFrom_21 rfl (lv_at hl 0 rfl) ?_
  refine g_cells S hK h hk q_34 dX4_copyFrom_22 ?_
  refine lv_iconst (v := (nI 0)) hx hb dX4_copyFrom_25 (by decide) ?_
  refine lv_aload_n hx hb dX4_copyFrom_26 rfl (lv_at hl 0 rfl) ?_
  have e2 : (up σ k l') k2 = σ k2 := up_n hkk
  refine g_len S hK h hk q_35 dX4_copyFrom_27 ?_
  refine cv_i (show (nI (((up σ k l') k).length) : Int32) = nI ((σ k2).length) from (by rw [up_s, hl'])) ?_
  refine p_copy S hI hK h (S.2.2.1.trans hl.1.symm) hk2 hk hkk (Nat.le_of_eq (by rw [e2])) (by rw [up_s, hl']) q_244 q_246 q_245 q_10 (Nat.le_of_ble_eq_true rfl) (Nat.le_of_ble_eq_true rfl) dX4_copyFrom_30  (fun H locs h => ?_)
  exact e_v S hK h hr hlk dX4_copyFrom_33 (fin_p hp rfl (by rw [up_up, e2, List.take_of_length_le (Nat.le_refl _)]))

abbrev rX4_appendAll : Room := { frames := 1, cells := 0, slots := 0, locals := 21 }
theorem yd_X4_appendAll : ydV yX4_appendAll RX4 1 := ⟨rfl, by decide +kernel, by decide +kernel, by decide +kernel⟩
set_option maxHeartbeats 4000000 in
set_option maxRecDepth 100000 in
theorem c_X4_appendAll (l : Launch) (L : Lay) (σ : St) {k k2 : Nat} (hk : kd k = 4) (hk2 : kd k2 = 4) (hkk : k2 ≠ k) (hc : (σ k).length + (σ k2).length ≤ cp k) : Mf l L yX4_appendAll (Cond.code yX4_appendAll cX4_appendAll 3 none :: qA) rX4_appendAll [.ref (ad L k), .ref (ad L k2)] σ none (up σ k (σ k ++ σ k2)) := by
  refine Mf.ofW (by decide) (Nat.le_of_ble_eq_true rfl) ?_
  intro p e s m args below meth c ls post hp hI S hr hlk hK h hl
  have hx := S.1
  have hb := S.2.1
  have hok := h.ok
  have hl : lv_has ls 3 [(0, .ref (ad L k)), (1, .ref (ad L k2))] := hl
  have h200 := hok.len hk2
  have hcp := cp_le k (kd_of hk)
  refine lv_iconst (v := (nI 0)) hx hb dX4_appendAll_0 (by decide) ?_
  refine lv_istore_n (lv' := [(2, .int (nI 0)), (0, .ref (ad L k)), (1, .ref (ad L k2))]) hx hb dX4_appendAll_1 rfl hl (by decide) rfl (fun ls hl => ?_)
  have LP_2 : ∀ (n_2 : Nat) (i : Nat) (σ1 : St), (i ≤ (σ k2).length) → (σ1 = up σ k (σ k ++ (σ k2).take i)) → (σ k2).length - i < n_2 → ∀ (H : Heap) (locs : List Loc) (ls : Array Slot), Hd L s.heap H σ1 locs → lv_has ls 3 [(2, .int (nI i)), (0, .ref (ad L k)), (1, .ref (ad L k2))] → W p l e rX4_appendAll s m args below meth c H locs 0 0 (MQ below (Qg post (bs L) (Aw L)) args s 0 0 (Aw L)) (F0 m 2 ls []) := by
    intro n_2
    induction n_2 with
    | zero => intro i σ1; intros; omega
    | succ n_2 ih_2 =>
      intro i σ1 hi hσ hm_2 H locs ls h hl
      have hok := h.ok
      have e2 : σ1 k2 = σ k2 := by rw [hσ, up_n hkk]
      have e1 : σ1 k = σ k ++ (σ k2).take i := by rw [hσ, up_s]
      have e3 : (σ1 k).length = (σ k).length + i := by rw [e1, List.length_append, List.length_take]; omega
      refine lv_iload_n hx hb dX4_appendAll_2 rfl (lv_at hl 0 rfl) ?_
      refine lv_aload_n hx hb dX4_appendAll_3 rfl (lv_at hl 2 rfl) ?_
      refine g_len S hK h hk2 q_35 dX4_appendAll_4 ?_
      refine b_icmp_ge (tgt := 25) hx hb dX4_appendAll_7 (by decide) (by omega) (by rw [e2]; omega) (fun c_7 => ?_) (fun c_7 => ?_)
      · rw [e2] at c_7
        have e4 : i = (σ k2).length := by omega
        exact e_v S hK h hr hlk dX4_appendAll_25 (fin_p hp rfl (by rw [hσ, e4, List.take_of_length_le (Nat.le_refl _)]))
      · have e2' : (up σ k (σ k ++ (σ k2).take i)) k2 = σ k2 := up_n hkk
        rw [e2] at c_7
        refine lv_aload_n hx hb dX4_appendAll_10 rfl (lv_at hl 1 rfl) ?_
        refine lv_aload_n hx hb dX4_appendAll_11 rfl (lv_at hl 2 rfl) ?_
        refine lv_iload_n hx hb dX4_appendAll_12 rfl (lv_at hl 0 rfl) ?_
        refine q_V1 (ci := 4) S hI hK h [.int (nI i)] (c_X4_at l L σ1 hk2 (by omega)) hk2 rfl (by decide) q_212 q_213 q_214 q_3 q_215 yd_X4_at rfl ⟨⟨rfl, rfl⟩, ⟨(Nat.le_of_ble_eq_true rfl), (Nat.le_of_ble_eq_true rfl)⟩, Nat.le_refl _, Nat.le_refl _⟩ rfl (Nat.le_of_ble_eq_true rfl) hl.1 dX4_appendAll_13 (fun H locs h => ?_)
        refine q_V0 (ci := 4) S hI hK h [.int ((σ1 k2).getD i 0)] (c_X4_append l L σ1 hk (by omega) ((σ1 k2).getD i 0)) hk rfl (by decide) q_332 q_97 q_98 q_3 q_99 yd_X4_append rfl ⟨⟨rfl, rfl⟩, ⟨(Nat.le_of_ble_eq_true rfl), (Nat.le_of_ble_eq_true rfl)⟩, Nat.le_refl _, Nat.le_refl _⟩ rfl (Nat.le_of_ble_eq_true rfl) hl.1 dX4_appendAll_16 (fun H locs h => ?_)
        refine lv_iinc (v := (nI (i + 1))) (lv' := [(2, .int (nI (i + 1))), (0, .ref (ad L k)), (1, .ref (ad L k2))]) hx hb dX4_appendAll_19 hl (k := 0) rfl (iinc_1 _) (by decide) rfl (fun ls hl => ?_)
        refine lv_goto (tgt := 2) hx hb dX4_appendAll_22 (by decide) ?_
        exact ih_2 (i + 1) (up σ1 k ((σ1 k) ++ [(σ1 k2).getD i 0])) (by omega) (by rw [hσ, up_up, up_s, e2', List.append_assoc, take_snoc c_7]) (by omega) _ _ _ h (lv_sub hl [0, 1, 2] rfl)
  exact LP_2 _ 0 σ (by omega) (by rw [List.take_zero, List.append_nil, up_id rfl]) (Nat.lt_succ_self _) _ _ _ h (lv_sub hl [0, 1, 2] rfl)

abbrev rX4_insertInOrder : Room := { frames := 1, cells := 0, slots := 0, locals := 23 }
theorem yd_X4_insertInOrder : ydV yX4_insertInOrder RX4 1 := ⟨rfl, by decide +kernel, by decide +kernel, by decide +kernel⟩
set_option maxHeartbeats 4000000 in
set_option maxRecDepth 100000 in
theorem c_X4_insertInOrder (l : Launch) (L : Lay) (σ : St) {k : Nat} (hk : kd k = 4) (hc : (σ k).length < cp k) (v : Int32) : Mf l L yX4_insertInOrder (Cond.code yX4_insertInOrder cX4_insertInOrder 3 none :: qA) rX4_insertInOrder [.ref (ad L k), .int v] σ none (up σ k (ins (σ k) v)) := by
  refine Mf.ofW (by decide) (Nat.le_of_ble_eq_true rfl) ?_
  intro p e s m args below meth c ls post hp hI S hr hlk hK h hl
  have hx := S.1
  have hb := S.2.1
  have hok := h.ok
  have hl : lv_has ls 3 [(0, .ref (ad L k)), (1, .int v)] := hl
  have h200 := hok.len hk
  have hcp := cp_le k (kd_of hk)
  refine lv_aload_n hx hb dX4_insertInOrder_0 rfl (lv_at hl 0 rfl) ?_
  refine lv_iload_n hx hb dX4_insertInOrder_1 rfl (lv_at hl 1 rfl) ?_
  refine q_V0 (ci := 4) S hI hK h [.int v] (c_X4_append l L σ hk (by omega) v) hk rfl (by decide) q_332 q_97 q_98 q_3 q_99 yd_X4_append rfl ⟨⟨rfl, rfl⟩, ⟨(Nat.le_of_ble_eq_true rfl), (Nat.le_of_ble_eq_true rfl)⟩, Nat.le_refl _, Nat.le_refl _⟩ rfl (Nat.le_of_ble_eq_true rfl) hl.1 dX4_insertInOrder_2 (fun H locs h => ?_)
  obtain ⟨σ0, e_σ0⟩ : ∃ z : St, z = up σ k ((σ k) ++ [v]) := ⟨_, rfl⟩
  have h := h.to e_σ0.symm
  have e0 : (σ0 k).length = (σ k).length + 1 := by rw [e_σ0, up_s]; simp
  refine lv_aload_n hx hb dX4_insertInOrder_5 rfl (lv_at hl 0 rfl) ?_
  refine g_len S hK h hk q_35 dX4_insertInOrder_6 ?_
  refine lv_iconst (v := (nI 1)) hx hb dX4_insertInOrder_9 (by decide) ?_
  refine a_isub hx hb dX4_insertInOrder_10 (by omega) ?_
  refine cv_i (show (nI (((σ0 k).length) - 1) : Int32) = nI ((σ k).length) from (by rw [e0, Nat.add_sub_cancel])) ?_
  refine lv_istore_n (lv' := [(2, .int (nI ((σ k).length))), (0, .ref (ad L k)), (1, .int v)]) hx hb dX4_insertInOrder_11 rfl hl (by decide) rfl (fun ls hl => ?_)
  have LP_12 : ∀ (n_12 : Nat) (i : Nat) (σ1 : St), (i ≤ (σ k).length) → ((σ1 k).length = (σ k).length + 1) → (up σ k (σ1 k) = σ1) → (ins (σ k) v = sift 0 gtI i (σ1 k)) → i < n_12 → ∀ (H : Heap) (locs : List Loc) (ls : Array Slot), Hd L s.heap H σ1 locs → lv_has ls 3 [(2, .int (nI i)), (0, .ref (ad L k)), (1, .int v)] → W p l e rX4_insertInOrder s m args below meth c H locs 0 0 (MQ below (Qg post (bs L) (Aw L)) args s 0 0 (Aw L)) (F0 m 12 ls []) := by
    intro n_12
    induction n_12 with
    | zero => intro i σ1; intros; omega
    | succ n_12 ih_12 =>
      intro i σ1 hi hl1 hu hσ hm_12 H locs ls h hl
      have hok := h.ok
      refine lv_iload_n hx hb dX4_insertInOrder_12 rfl (lv_at hl 0 rfl) ?_
      refine b_if_le (tgt := 45) hx hb dX4_insertInOrder_13 (by decide) (by omega) (fun c_13 => ?_) (fun c_13 => ?_)
      · have hp9 : post none σ1 := fin_p hp rfl (by rw [hσ, c_13]; exact hu.symm)
        exact e_v S hK h hr hlk dX4_insertInOrder_45 hp9
      · obtain ⟨j, rfl⟩ : ∃ j, i = j + 1 := ⟨i - 1, by omega⟩
        refine lv_aload_n hx hb dX4_insertInOrder_16 rfl (lv_at hl 1 rfl) ?_
        refine lv_iload_n hx hb dX4_insertInOrder_17 rfl (lv_at hl 0 rfl) ?_
        refine lv_iconst (v := (nI 1)) hx hb dX4_insertInOrder_18 (by decide) ?_
        refine a_isub hx hb dX4_insertInOrder_19 (by omega) ?_
        refine cv_i (show (nI ((j + 1) - 1) : Int32) = nI j from (by rw [Nat.add_sub_cancel])) ?_
        refine q_V1 (ci := 4) S hI hK h [.int (nI j)] (c_X4_at l L σ1 hk (by omega)) hk rfl (by decide) q_212 q_213 q_214 q_3 q_215 yd_X4_at rfl ⟨⟨rfl, rfl⟩, ⟨(Nat.le_of_ble_eq_true rfl), (Nat.le_of_ble_eq_true rfl)⟩, Nat.le_refl _, Nat.le_refl _⟩ rfl (Nat.le_of_ble_eq_true rfl) hl.1 dX4_insertInOrder_20 (fun H locs h => ?_)
        refine lv_aload_n hx hb dX4_insertInOrder_23 rfl (lv_at hl 1 rfl) ?_
        refine lv_iload_n hx hb dX4_insertInOrder_24 rfl (lv_at hl 0 rfl) ?_
        refine q_V1 (ci := 4) S hI hK h [.int (nI (j + 1))] (c_X4_at l L σ1 hk (by omega)) hk rfl (by decide) q_212 q_213 q_214 q_3 q_215 yd_X4_at rfl ⟨⟨rfl, rfl⟩, ⟨(Nat.le_of_ble_eq_true rfl), (Nat.le_of_ble_eq_true rfl)⟩, Nat.le_refl _, Nat.le_refl _⟩ rfl (Nat.le_of_ble_eq_true rfl) hl.1 dX4_insertInOrder_25 (fun H locs h => ?_)
        refine lv_icmp_le (tgt := 45) hx hb dX4_insertInOrder_28 (by decide) (fun c_28 => ?_) (fun c_28 => ?_)
        · have hp9 : post none σ1 := fin_p hp rfl (by rw [hσ]; conv => { lhs; rw [← hu] }; congr 1; exact (if_neg (fun q => absurd (of_decide_eq_true q) (Int32.not_lt.mpr c_28))).symm)
          exact e_v S hK h hr hlk dX4_insertInOrder_45 hp9
        · refine lv_aload_n hx hb dX4_insertInOrder_31 rfl (lv_at hl 1 rfl) ?_
          refine lv_iload_n hx hb dX4_insertInOrder_32 rfl (lv_at hl 0 rfl) ?_
          refine lv_iconst (v := (nI 1)) hx hb dX4_insertInOrder_33 (by decide) ?_
          refine a_isub hx hb dX4_insertInOrder_34 (by omega) ?_
          refine cv_i (show (nI ((j + 1) - 1) : Int32) = nI j from (by rw [Nat.add_sub_cancel])) ?_
          refine lv_iload_n hx hb dX4_insertInOrder_35 rfl (lv_at hl 0 rfl) ?_
          refine q_V0 (ci := 4) S hI hK h [.int (nI j), .int (nI (j + 1))] (c_X4_exchange l L σ1 hk (by omega) (by omega)) hk rfl (by decide) q_333 q_298 q_299 q_3 q_300 yd_X4_exchange rfl ⟨⟨rfl, rfl⟩, ⟨(Nat.le_of_ble_eq_true rfl), (Nat.le_of_ble_eq_true rfl)⟩, Nat.le_refl _, Nat.le_refl _⟩ rfl (Nat.le_of_ble_eq_true rfl) hl.1 dX4_insertInOrder_36 (fun H locs h => ?_)
          refine lv_iinc (v := (nI j)) (lv' := [(2, .int (nI j)), (0, .ref (ad L k)), (1, .int v)]) hx hb dX4_insertInOrder_39 hl (k := 0) rfl (iinc_m1 _) (by decide) rfl (fun ls hl => ?_)
          refine lv_goto (tgt := 12) hx hb dX4_insertInOrder_42 (by decide) ?_
          exact ih_12 j (up σ1 k (swp 0 (σ1 k) j (j + 1))) (by omega) (by rw [up_s, swp_len]; exact hl1) (by rw [up_s]; exact up_of hu) (by rw [up_s, hσ]; exact if_pos (decide_eq_true (Int32.not_le.mp c_28))) (by omega) _ _ _ h (lv_sub hl [0, 1, 2] rfl)
  exact LP_12 _ ((σ k).length) σ0 (by omega) e0 (by rw [e_σ0, up_s]) (by rw [e_σ0, up_s]; rfl) (Nat.lt_succ_self _) _ _ _ h (lv_sub hl [0, 1, 2] rfl)

abbrev rX4_total : Room := { frames := 1, cells := 0, slots := 0, locals := 21 }
theorem yd_X4_total : ydV yX4_total RX4 0 := ⟨rfl, by decide +kernel, by decide +kernel, by decide +kernel⟩
set_option maxHeartbeats 4000000 in
set_option maxRecDepth 100000 in
theorem c_X4_total (l : Launch) (L : Lay) (σ : St) {k : Nat} (hk : kd k = 4) : Mf l L yX4_total (Cond.code yX4_total cX4_total 3 (some FieldType.int) :: qA) rX4_total [.ref (ad L k)] σ (some (.int (isum (σ k) (σ k).length))) σ := by
  refine Mf.ofW (by decide) (Nat.le_of_ble_eq_true rfl) ?_
  intro p e s m args below meth c ls post hp hI S hr hlk hK h hl
  have hx := S.1
  have hb := S.2.1
  have hok := h.ok
  have hl : lv_has ls 3 [(0, .ref (ad L k))] := hl
  have h200 := hok.len hk
  refine lv_iconst (v := (nI 0)) hx hb dX4_total_0 (by decide) ?_
  refine lv_istore_n (lv' := [(1, .int (nI 0)), (0, .ref (ad L k))]) hx hb dX4_total_1 rfl hl (by decide) rfl (fun ls hl => ?_)
  refine lv_iconst (v := (nI 0)) hx hb dX4_total_2 (by decide) ?_
  refine lv_istore_n (lv' := [(2, .int (nI 0)), (1, .int (nI 0)), (0, .ref (ad L k))]) hx hb dX4_total_3 rfl hl (by decide) rfl (fun ls hl => ?_)
  have LP_4 : ∀ (n_4 : Nat) (i : Nat) (acc : Int32), (i ≤ (σ k).length) → (acc = isum (σ k) i) → (σ k).length - i < n_4 → ∀ (H : Heap) (locs : List Loc) (ls : Array Slot), Hd L s.heap H σ locs → lv_has ls 3 [(2, .int (nI i)), (1, .int acc), (0, .ref (ad L k))] → W p l e rX4_total s m args below meth c H locs 0 0 (MQ below (Qg post (bs L) (Aw L)) args s 0 0 (Aw L)) (F0 m 4 ls []) := by
    intro n_4
    induction n_4 with
    | zero => intro i acc; intros; omega
    | succ n_4 ih_4 =>
      intro i acc hi ha hm_4 H locs ls h hl
      have hok := h.ok
      refine lv_iload_n hx hb dX4_total_4 rfl (lv_at hl 0 rfl) ?_
      refine lv_aload_n hx hb dX4_total_5 rfl (lv_at hl 2 rfl) ?_
      refine g_len S hK h hk q_35 dX4_total_6 ?_
      refine b_icmp_ge (tgt := 26) hx hb dX4_total_9 (by decide) (by omega) (by omega) (fun c_9 => ?_) (fun c_9 => ?_)
      · have e4 : i = (σ k).length := by omega
        refine lv_iload_n hx hb dX4_total_26 rfl (lv_at hl 1 rfl) ?_
        exact e_i S hK h hr hlk dX4_total_27 (fin_p hp (by rw [ha, e4]) rfl)
      · refine lv_iload_n hx hb dX4_total_12 rfl (lv_at hl 1 rfl) ?_
        refine lv_aload_n hx hb dX4_total_13 rfl (lv_at hl 2 rfl) ?_
        refine lv_iload_n hx hb dX4_total_14 rfl (lv_at hl 0 rfl) ?_
        refine q_V1 (ci := 4) S hI hK h [.int (nI i)] (c_X4_at l L σ hk (by omega)) hk rfl (by decide) q_212 q_213 q_214 q_3 q_215 yd_X4_at rfl ⟨⟨rfl, rfl⟩, ⟨(Nat.le_of_ble_eq_true rfl), (Nat.le_of_ble_eq_true rfl)⟩, Nat.le_refl _, Nat.le_refl _⟩ rfl (Nat.le_of_ble_eq_true rfl) hl.1 dX4_total_15 (fun H locs h => ?_)
        refine lv_iadd hx hb dX4_total_18 ?_
        refine lv_istore_n (lv' := [(1, .int (acc + ((σ k).getD i 0))), (2, .int (nI i)), (0, .ref (ad L k))]) hx hb dX4_total_19 rfl hl (by decide) rfl (fun ls hl => ?_)
        refine lv_iinc (v := (nI (i + 1))) (lv' := [(2, .int (nI (i + 1))), (1, .int (acc + ((σ k).getD i 0))), (0, .ref (ad L k))]) hx hb dX4_total_20 hl (k := 1) rfl (iinc_1 _) (by decide) rfl (fun ls hl => ?_)
        refine lv_goto (tgt := 4) hx hb dX4_total_23 (by decide) ?_
        exact ih_4 (i + 1) (acc + ((σ k).getD i 0)) (by omega) (by rw [ha]; rfl) (by omega) _ _ _ h (lv_sub hl [0, 1, 2] rfl)
  exact LP_4 _ 0 (nI 0) (by omega) rfl (Nat.lt_succ_self _) _ _ _ h (lv_sub hl [0, 1, 2] rfl)

abbrev rX4_least : Room := { frames := 1, cells := 0, slots := 0, locals := 21 }
theorem yd_X4_least : ydV yX4_least RX4 0 := ⟨rfl, by decide +kernel, by decide +kernel, by decide +kernel⟩
set_option maxHeartbeats 4000000 in
set_option maxRecDepth 100000 in
theorem c_X4_least (l : Launch) (L : Lay) (σ : St) {k : Nat} (hk : kd k = 4) : Mf l L yX4_least (Cond.code yX4_least cX4_least 3 (some FieldType.int) :: qA) rX4_least [.ref (ad L k)] σ (some (.int (imin (σ k) (σ k).length))) σ := by
  refine Mf.ofW (by decide) (Nat.le_of_ble_eq_true rfl) ?_
  intro p e s m args below meth c ls post hp hI S hr hlk hK h hl
  have hx := S.1
  have hb := S.2.1
  have hok := h.ok
  have hl : lv_has ls 3 [(0, .ref (ad L k))] := hl
  have h200 := hok.len hk
  refine lv_ldc (v := (2147483647 : Int32)) hx hb S.2.2.2.1 (S.2.2.2.2 _ q_458) dX4_least_0 ?_
  refine lv_istore_n (lv' := [(1, .int (2147483647 : Int32)), (0, .ref (ad L k))]) hx hb dX4_least_2 rfl hl (by decide) rfl (fun ls hl => ?_)
  refine lv_iconst (v := (nI 0)) hx hb dX4_least_3 (by decide) ?_
  refine lv_istore_n (lv' := [(2, .int (nI 0)), (1, .int (2147483647 : Int32)), (0, .ref (ad L k))]) hx hb dX4_least_4 rfl hl (by decide) rfl (fun ls hl => ?_)
  have LP_5 : ∀ (n_5 : Nat) (i : Nat) (acc : Int32), (i ≤ (σ k).length) → (acc = imin (σ k) i) → (σ k).length - i < n_5 → ∀ (H : Heap) (locs : List Loc) (ls : Array Slot), Hd L s.heap H σ locs → lv_has ls 3 [(2, .int (nI i)), (1, .int acc), (0, .ref (ad L k))] → W p l e rX4_least s m args below meth c H locs 0 0 (MQ below (Qg post (bs L) (Aw L)) args s 0 0 (Aw L)) (F0 m 5 ls []) := by
    intro n_5
    induction n_5 with
    | zero => intro i acc; intros; omega
    | succ n_5 ih_5 =>
      intro i acc hi ha hm_5 H locs ls h hl
      have hok := h.ok
      refine lv_iload_n hx hb dX4_least_5 rfl (lv_at hl 0 rfl) ?_
      refine lv_aload_n hx hb dX4_least_6 rfl (lv_at hl 2 rfl) ?_
      refine g_len S hK h hk q_35 dX4_least_7 ?_
      refine b_icmp_ge (tgt := 29) hx hb dX4_least_10 (by decide) (by omega) (by omega) (fun c_10 => ?_) (fun c_10 => ?_)
      · have e4 : i = (σ k).length := by omega
        refine lv_iload_n hx hb dX4_least_29 rfl (lv_at hl 1 rfl) ?_
        exact e_i S hK h hr hlk dX4_least_30 (fin_p hp (by rw [ha, e4]) rfl)
      · refine lv_iload_n hx hb dX4_least_13 rfl (lv_at hl 1 rfl) ?_
        refine lv_aload_n hx hb dX4_least_14 rfl (lv_at hl 2 rfl) ?_
        refine lv_iload_n hx hb dX4_least_15 rfl (lv_at hl 0 rfl) ?_
        refine q_V1 (ci := 4) S hI hK h [.int (nI i)] (c_X4_at l L σ hk (by omega)) hk rfl (by decide) q_212 q_213 q_214 q_3 q_215 yd_X4_at rfl ⟨⟨rfl, rfl⟩, ⟨(Nat.le_of_ble_eq_true rfl), (Nat.le_of_ble_eq_true rfl)⟩, Nat.le_refl _, Nat.le_refl _⟩ rfl (Nat.le_of_ble_eq_true rfl) hl.1 dX4_least_16 (fun H locs h => ?_)
        refine va_mmin hx hb (S.2.2.1.trans hl.1.symm) S.2.2.2.1 (S.2.2.2.2 _ q_241) (S.2.2.2.2 _ q_242) (S.2.2.2.2 _ q_4) (S.2.2.2.2 _ q_243) (Nat.le_of_ble_eq_true rfl) (Nat.le_of_ble_eq_true rfl) (Nat.zero_le _) (Nat.zero_le _) dX4_least_19 ?_
        refine lv_istore_n (lv' := [(1, .int (if ((σ k).getD i 0) < acc then ((σ k).getD i 0) else acc)), (2, .int (nI i)), (0, .ref (ad L k))]) hx hb dX4_least_22 rfl hl (by decide) rfl (fun ls hl => ?_)
        refine lv_iinc (v := (nI (i + 1))) (lv' := [(2, .int (nI (i + 1))), (1, .int (if ((σ k).getD i 0) < acc then ((σ k).getD i 0) else acc)), (0, .ref (ad L k))]) hx hb dX4_least_23 hl (k := 1) rfl (iinc_1 _) (by decide) rfl (fun ls hl => ?_)
        refine lv_goto (tgt := 5) hx hb dX4_least_26 (by decide) ?_
        exact ih_5 (i + 1) (if ((σ k).getD i 0) < acc then ((σ k).getD i 0) else acc) (by omega) (by rw [ha]; rfl) (by omega) _ _ _ h (lv_sub hl [0, 1, 2] rfl)
  exact LP_5 _ 0 (2147483647 : Int32) (by omega) rfl (Nat.lt_succ_self _) _ _ _ h (lv_sub hl [0, 1, 2] rfl)

abbrev rX4_greatest : Room := { frames := 1, cells := 0, slots := 0, locals := 21 }
theorem yd_X4_greatest : ydV yX4_greatest RX4 0 := ⟨rfl, by decide +kernel, by decide +kernel, by decide +kernel⟩
set_option maxHeartbeats 4000000 in
set_option maxRecDepth 100000 in
theorem c_X4_greatest (l : Launch) (L : Lay) (σ : St) {k : Nat} (hk : kd k = 4) : Mf l L yX4_greatest (Cond.code yX4_greatest cX4_greatest 3 (some FieldType.int) :: qA) rX4_greatest [.ref (ad L k)] σ (some (.int (imax (σ k) (σ k).length))) σ := by
  refine Mf.ofW (by decide) (Nat.le_of_ble_eq_true rfl) ?_
  intro p e s m args below meth c ls post hp hI S hr hlk hK h hl
  have hx := S.1
  have hb := S.2.1
  have hok := h.ok
  have hl : lv_has ls 3 [(0, .ref (ad L k))] := hl
  have h200 := hok.len hk
  refine lv_ldc (v := (-2147483648 : Int32)) hx hb S.2.2.2.1 (S.2.2.2.2 _ q_468) dX4_greatest_0 ?_
  refine lv_istore_n (lv' := [(1, .int (-2147483648 : Int32)), (0, .ref (ad L k))]) hx hb dX4_greatest_2 rfl hl (by decide) rfl (fun ls hl => ?_)
  refine lv_iconst (v := (nI 0)) hx hb dX4_greatest_3 (by decide) ?_
  refine lv_istore_n (lv' := [(2, .int (nI 0)), (1, .int (-2147483648 : Int32)), (0, .ref (ad L k))]) hx hb dX4_greatest_4 rfl hl (by decide) rfl (fun ls hl => ?_)
  have LP_5 : ∀ (n_5 : Nat) (i : Nat) (acc : Int32), (i ≤ (σ k).length) → (acc = imax (σ k) i) → (σ k).length - i < n_5 → ∀ (H : Heap) (locs : List Loc) (ls : Array Slot), Hd L s.heap H σ locs → lv_has ls 3 [(2, .int (nI i)), (1, .int acc), (0, .ref (ad L k))] → W p l e rX4_greatest s m args below meth c H locs 0 0 (MQ below (Qg post (bs L) (Aw L)) args s 0 0 (Aw L)) (F0 m 5 ls []) := by
    intro n_5
    induction n_5 with
    | zero => intro i acc; intros; omega
    | succ n_5 ih_5 =>
      intro i acc hi ha hm_5 H locs ls h hl
      have hok := h.ok
      refine lv_iload_n hx hb dX4_greatest_5 rfl (lv_at hl 0 rfl) ?_
      refine lv_aload_n hx hb dX4_greatest_6 rfl (lv_at hl 2 rfl) ?_
      refine g_len S hK h hk q_35 dX4_greatest_7 ?_
      refine b_icmp_ge (tgt := 29) hx hb dX4_greatest_10 (by decide) (by omega) (by omega) (fun c_10 => ?_) (fun c_10 => ?_)
      · have e4 : i = (σ k).length := by omega
        refine lv_iload_n hx hb dX4_greatest_29 rfl (lv_at hl 1 rfl) ?_
        exact e_i S hK h hr hlk dX4_greatest_30 (fin_p hp (by rw [ha, e4]) rfl)
      · refine lv_iload_n hx hb dX4_greatest_13 rfl (lv_at hl 1 rfl) ?_
        refine lv_aload_n hx hb dX4_greatest_14 rfl (lv_at hl 2 rfl) ?_
        refine lv_iload_n hx hb dX4_greatest_15 rfl (lv_at hl 0 rfl) ?_
        refine q_V1 (ci := 4) S hI hK h [.int (nI i)] (c_X4_at l L σ hk (by omega)) hk rfl (by decide) q_212 q_213 q_214 q_3 q_215 yd_X4_at rfl ⟨⟨rfl, rfl⟩, ⟨(Nat.le_of_ble_eq_true rfl), (Nat.le_of_ble_eq_true rfl)⟩, Nat.le_refl _, Nat.le_refl _⟩ rfl (Nat.le_of_ble_eq_true rfl) hl.1 dX4_greatest_16 (fun H locs h => ?_)
        refine va_mmax hx hb (S.2.2.1.trans hl.1.symm) S.2.2.2.1 (S.2.2.2.2 _ q_31) (S.2.2.2.2 _ q_32) (S.2.2.2.2 _ q_4) (S.2.2.2.2 _ q_33) (Nat.le_of_ble_eq_true rfl) (Nat.le_of_ble_eq_true rfl) (Nat.zero_le _) (Nat.zero_le _) dX4_greatest_19 ?_
        refine lv_istore_n (lv' := [(1, .int (if acc < ((σ k).getD i 0) then ((σ k).getD i 0) else acc)), (2, .int (nI i)), (0, .ref (ad L k))]) hx hb dX4_greatest_22 rfl hl (by decide) rfl (fun ls hl => ?_)
        refine lv_iinc (v := (nI (i + 1))) (lv' := [(2, .int (nI (i + 1))), (1, .int (if acc < ((σ k).getD i 0) then ((σ k).getD i 0) else acc)), (0, .ref (ad L k))]) hx hb dX4_greatest_23 hl (k := 1) rfl (iinc_1 _) (by decide) rfl (fun ls hl => ?_)
        refine lv_goto (tgt := 5) hx hb dX4_greatest_26 (by decide) ?_
        exact ih_5 (i + 1) (if acc < ((σ k).getD i 0) then ((σ k).getD i 0) else acc) (by omega) (by rw [ha]; rfl) (by omega) _ _ _ h (lv_sub hl [0, 1, 2] rfl)
  exact LP_5 _ 0 (-2147483648 : Int32) (by omega) rfl (Nat.lt_succ_self _) _ _ _ h (lv_sub hl [0, 1, 2] rfl)

abbrev rX7_add_n : Room := { frames := 1, cells := 0, slots := 0, locals := 21 }
theorem yd_X7_add : ydV yX7_add RX7 3 := ⟨rfl, by decide +kernel, by decide +kernel, by decide +kernel⟩
set_option maxHeartbeats 4000000 in
set_option maxRecDepth 100000 in
theorem c_X7_add_n (l : Launch) (L : Lay) (σ : St) {X : SS} {hh : List SS} {t : List Int32} (hc : CR σ X hh t) (hX : XI X) {x : Int32} (hx2 : x.toInt < 0 ∨ 2 < x.toInt) (y0 : Int32) (y1 : Int32) : Mg l L yX7_add (Cond.code yX7_add cX7_add 6 (some FieldType.int) :: qA) rX7_add_n [.ref (ad L 244), .int x, .int y0, .int y1] σ (fun r u => r = some (.int cINV) ∧ CR u X hh t) := by
  refine Mr_ofW (by decide) (Nat.le_of_ble_eq_true rfl) ?_
  intro p e s m args below meth c ls post hp hI S hr hlk hK h hl
  have hx := S.1
  have hb := S.2.1
  have hok := h.ok
  have hl : lv_has ls 6 [(0, .ref (ad L 244)), (1, .int x), (2, .int y0), (3, .int y1)] := hl
  refine lv_aload_n hx hb dX7_add_0 rfl (lv_at hl 0 rfl) ?_
  refine g_main S hK h (by decide) 0 0 (by decide) rfl rfl q_173 dX7_add_1 ?_
  refine lv_iload_n hx hb dX7_add_4 rfl (lv_at hl 1 rfl) ?_
  refine q_V1 (ci := 5) S hI hK h [.int x] (c_X5_digestAt_n l L σ (by decide) hx2) (by decide) rfl (by decide) q_196 q_197 q_198 q_2 q_199 yd_X5_digestAt rfl ⟨⟨rfl, rfl⟩, ⟨(Nat.le_of_ble_eq_true rfl), (Nat.le_of_ble_eq_true rfl)⟩, Nat.le_refl _, Nat.le_refl _⟩ rfl (Nat.le_of_ble_eq_true rfl) hl.1 dX7_add_5 (fun H locs h => ?_)
  refine lv_astoreN (lv' := [(4, .null), (0, .ref (ad L 244)), (1, .int x), (2, .int y0), (3, .int y1)]) hx hb dX7_add_8 hl (by decide) rfl (fun ls hl => ?_)
  refine lv_aloadN hx hb dX7_add_10 (lv_at hl 0 rfl) ?_
  refine lv_ifnullN (tgt := 36) hx hb dX7_add_12 (by decide) ?_
  refine lv_ldc (v := (-1000001 : Int32)) hx hb S.2.2.2.1 (S.2.2.2.2 _ q_203) dX7_add_36 ?_
  exact e_i S hK h hr hlk dX7_add_38 (hp _ _ ⟨rfl, hc⟩)

abbrev rX7_pack_n : Room := { frames := 1, cells := 0, slots := 0, locals := 21 }
theorem yd_X7_pack : ydV yX7_pack RX7 1 := ⟨rfl, by decide +kernel, by decide +kernel, by decide +kernel⟩
set_option maxHeartbeats 4000000 in
set_option maxRecDepth 100000 in
theorem c_X7_pack_n (l : Launch) (L : Lay) (σ : St) {X : SS} {hh : List SS} {t : List Int32} (hc : CR σ X hh t) (hX : XI X) {x : Int32} (hx2 : x.toInt < 0 ∨ 2 < x.toInt)  : Mg l L yX7_pack (Cond.code yX7_pack cX7_pack 3 (some FieldType.int) :: qA) rX7_pack_n [.ref (ad L 244), .int x] σ (fun r u => r = some (.int cINV) ∧ CR u X hh t) := by
  refine Mr_ofW (by decide) (Nat.le_of_ble_eq_true rfl) ?_
  intro p e s m args below meth c ls post hp hI S hr hlk hK h hl
  have hx := S.1
  have hb := S.2.1
  have hok := h.ok
  have hl : lv_has ls 3 [(0, .ref (ad L 244)), (1, .int x)] := hl
  refine lv_aload_n hx hb dX7_pack_0 rfl (lv_at hl 0 rfl) ?_
  refine g_main S hK h (by decide) 0 0 (by decide) rfl rfl q_173 dX7_pack_1 ?_
  refine lv_iload_n hx hb dX7_pack_4 rfl (lv_at hl 1 rfl) ?_
  refine q_V1 (ci := 5) S hI hK h [.int x] (c_X5_digestAt_n l L σ (by decide) hx2) (by decide) rfl (by decide) q_196 q_197 q_198 q_2 q_199 yd_X5_digestAt rfl ⟨⟨rfl, rfl⟩, ⟨(Nat.le_of_ble_eq_true rfl), (Nat.le_of_ble_eq_true rfl)⟩, Nat.le_refl _, Nat.le_refl _⟩ rfl (Nat.le_of_ble_eq_true rfl) hl.1 dX7_pack_5 (fun H locs h => ?_)
  refine lv_astore_nN (lv' := [(2, .null), (0, .ref (ad L 244)), (1, .int x)]) hx hb dX7_pack_8 rfl hl (by decide) rfl (fun ls hl => ?_)
  refine lv_aload_nN hx hb dX7_pack_9 rfl (lv_at hl 0 rfl) ?_
  refine lv_ifnonnullN hx hb dX7_pack_10 ?_
  refine lv_ldc (v := (-1000001 : Int32)) hx hb S.2.2.2.1 (S.2.2.2.2 _ q_203) dX7_pack_13 ?_
  exact e_i S hK h hr hlk dX7_pack_15 (hp _ _ ⟨rfl, hc⟩)

abbrev rX7_clear_n : Room := { frames := 1, cells := 0, slots := 0, locals := 21 }
abbrev rX7_heapOf_n : Room := { frames := 1, cells := 0, slots := 0, locals := 21 }
theorem yd_X7_heapOf : ydV yX7_heapOf RX7 3 := ⟨rfl, by decide +kernel, by decide +kernel, by decide +kernel⟩
set_option maxHeartbeats 4000000 in
set_option maxRecDepth 100000 in
theorem c_X7_heapOf_n (l : Launch) (L : Lay) (σ : St) {X : SS} {hh : List SS} {t : List Int32} (hc : CR σ X hh t) (hX : XI X) {x : Int32} (hx2 : x.toInt < 0 ∨ 2 < x.toInt) (y0 : Int32) (y1 : Int32) : Mg l L yX7_heapOf (Cond.code yX7_heapOf cX7_heapOf 6 (some FieldType.int) :: qA) rX7_heapOf_n [.ref (ad L 244), .int x, .int y0, .int y1] σ (fun r u => r = some (.int cINV) ∧ CR u X hh t) := by
  refine Mr_ofW (by decide) (Nat.le_of_ble_eq_true rfl) ?_
  intro p e s m args below meth c ls post hp hI S hr hlk hK h hl
  have hx := S.1
  have hb := S.2.1
  have hok := h.ok
  have hl : lv_has ls 6 [(0, .ref (ad L 244)), (1, .int x), (2, .int y0), (3, .int y1)] := hl
  refine lv_aload_n hx hb dX7_heapOf_0 rfl (lv_at hl 0 rfl) ?_
  refine g_main S hK h (by decide) 0 0 (by decide) rfl rfl q_173 dX7_heapOf_1 ?_
  refine lv_iload_n hx hb dX7_heapOf_4 rfl (lv_at hl 1 rfl) ?_
  refine q_V1 (ci := 5) S hI hK h [.int x] (c_X5_digestAt_n l L σ (by decide) hx2) (by decide) rfl (by decide) q_196 q_197 q_198 q_2 q_199 yd_X5_digestAt rfl ⟨⟨rfl, rfl⟩, ⟨(Nat.le_of_ble_eq_true rfl), (Nat.le_of_ble_eq_true rfl)⟩, Nat.le_refl _, Nat.le_refl _⟩ rfl (Nat.le_of_ble_eq_true rfl) hl.1 dX7_heapOf_5 (fun H locs h => ?_)
  refine lv_astoreN (lv' := [(4, .null), (0, .ref (ad L 244)), (1, .int x), (2, .int y0), (3, .int y1)]) hx hb dX7_heapOf_8 hl (by decide) rfl (fun ls hl => ?_)
  refine lv_aloadN hx hb dX7_heapOf_10 (lv_at hl 0 rfl) ?_
  refine lv_ifnullN (tgt := 29) hx hb dX7_heapOf_12 (by decide) ?_
  refine lv_ldc (v := (-1000001 : Int32)) hx hb S.2.2.2.1 (S.2.2.2.2 _ q_203) dX7_heapOf_29 ?_
  exact e_i S hK h hr hlk dX7_heapOf_31 (hp _ _ ⟨rfl, hc⟩)

abbrev rX7_bufferOf_n : Room := { frames := 1, cells := 0, slots := 0, locals := 21 }
theorem yd_X7_bufferOf : ydV yX7_bufferOf RX7 2 := ⟨rfl, by decide +kernel, by decide +kernel, by decide +kernel⟩
set_option maxHeartbeats 4000000 in
set_option maxRecDepth 100000 in
theorem c_X7_bufferOf_n (l : Launch) (L : Lay) (σ : St) {X : SS} {hh : List SS} {t : List Int32} (hc : CR σ X hh t) (hX : XI X) {x : Int32} (hx2 : x.toInt < 0 ∨ 2 < x.toInt) (y0 : Int32) : Mg l L yX7_bufferOf (Cond.code yX7_bufferOf cX7_bufferOf 4 (some FieldType.int) :: qA) rX7_bufferOf_n [.ref (ad L 244), .int x, .int y0] σ (fun r u => r = some (.int cINV) ∧ CR u X hh t) := by
  refine Mr_ofW (by decide) (Nat.le_of_ble_eq_true rfl) ?_
  intro p e s m args below meth c ls post hp hI S hr hlk hK h hl
  have hx := S.1
  have hb := S.2.1
  have hok := h.ok
  have hl : lv_has ls 4 [(0, .ref (ad L 244)), (1, .int x), (2, .int y0)] := hl
  refine lv_aload_n hx hb dX7_bufferOf_0 rfl (lv_at hl 0 rfl) ?_
  refine g_main S hK h (by decide) 0 0 (by decide) rfl rfl q_173 dX7_bufferOf_1 ?_
  refine lv_iload_n hx hb dX7_bufferOf_4 rfl (lv_at hl 1 rfl) ?_
  refine q_V1 (ci := 5) S hI hK h [.int x] (c_X5_digestAt_n l L σ (by decide) hx2) (by decide) rfl (by decide) q_196 q_197 q_198 q_2 q_199 yd_X5_digestAt rfl ⟨⟨rfl, rfl⟩, ⟨(Nat.le_of_ble_eq_true rfl), (Nat.le_of_ble_eq_true rfl)⟩, Nat.le_refl _, Nat.le_refl _⟩ rfl (Nat.le_of_ble_eq_true rfl) hl.1 dX7_bufferOf_5 (fun H locs h => ?_)
  refine lv_astore_nN (lv' := [(3, .null), (0, .ref (ad L 244)), (1, .int x), (2, .int y0)]) hx hb dX7_bufferOf_8 rfl hl (by decide) rfl (fun ls hl => ?_)
  refine lv_aload_nN hx hb dX7_bufferOf_9 rfl (lv_at hl 0 rfl) ?_
  refine lv_ifnullN (tgt := 17) hx hb dX7_bufferOf_10 (by decide) ?_
  refine lv_ldc (v := (-1000001 : Int32)) hx hb S.2.2.2.1 (S.2.2.2.2 _ q_203) dX7_bufferOf_17 ?_
  exact e_i S hK h hr hlk dX7_bufferOf_19 (hp _ _ ⟨rfl, hc⟩)

abbrev rX7_digestOf_n : Room := { frames := 1, cells := 0, slots := 0, locals := 21 }
theorem yd_X7_digestOf : ydV yX7_digestOf RX7 2 := ⟨rfl, by decide +kernel, by decide +kernel, by decide +kernel⟩
set_option maxHeartbeats 4000000 in
set_option maxRecDepth 100000 in
theorem c_X7_digestOf_n (l : Launch) (L : Lay) (σ : St) {X : SS} {hh : List SS} {t : List Int32} (hc : CR σ X hh t) (hX : XI X) {x : Int32} (hx2 : x.toInt < 0 ∨ 2 < x.toInt) (y0 : Int32) : Mg l L yX7_digestOf (Cond.code yX7_digestOf cX7_digestOf 4 (some FieldType.int) :: qA) rX7_digestOf_n [.ref (ad L 244), .int x, .int y0] σ (fun r u => r = some (.int cINV) ∧ CR u X hh t) := by
  refine Mr_ofW (by decide) (Nat.le_of_ble_eq_true rfl) ?_
  intro p e s m args below meth c ls post hp hI S hr hlk hK h hl
  have hx := S.1
  have hb := S.2.1
  have hok := h.ok
  have hl : lv_has ls 4 [(0, .ref (ad L 244)), (1, .int x), (2, .int y0)] := hl
  refine lv_aload_n hx hb dX7_digestOf_0 rfl (lv_at hl 0 rfl) ?_
  refine g_main S hK h (by decide) 0 0 (by decide) rfl rfl q_173 dX7_digestOf_1 ?_
  refine lv_iload_n hx hb dX7_digestOf_4 rfl (lv_at hl 1 rfl) ?_
  refine q_V1 (ci := 5) S hI hK h [.int x] (c_X5_digestAt_n l L σ (by decide) hx2) (by decide) rfl (by decide) q_196 q_197 q_198 q_2 q_199 yd_X5_digestAt rfl ⟨⟨rfl, rfl⟩, ⟨(Nat.le_of_ble_eq_true rfl), (Nat.le_of_ble_eq_true rfl)⟩, Nat.le_refl _, Nat.le_refl _⟩ rfl (Nat.le_of_ble_eq_true rfl) hl.1 dX7_digestOf_5 (fun H locs h => ?_)
  refine lv_astore_nN (lv' := [(3, .null), (0, .ref (ad L 244)), (1, .int x), (2, .int y0)]) hx hb dX7_digestOf_8 rfl hl (by decide) rfl (fun ls hl => ?_)
  refine lv_aload_nN hx hb dX7_digestOf_9 rfl (lv_at hl 0 rfl) ?_
  refine lv_ifnullN (tgt := 23) hx hb dX7_digestOf_10 (by decide) ?_
  refine lv_ldc (v := (-1000001 : Int32)) hx hb S.2.2.2.1 (S.2.2.2.2 _ q_203) dX7_digestOf_23 ?_
  exact e_i S hK h hr hlk dX7_digestOf_25 (hp _ _ ⟨rfl, hc⟩)

abbrev rX7_quantile_n : Room := { frames := 1, cells := 0, slots := 0, locals := 21 }
theorem yd_X7_quantile : ydV yX7_quantile RX7 2 := ⟨rfl, by decide +kernel, by decide +kernel, by decide +kernel⟩
set_option maxHeartbeats 4000000 in
set_option maxRecDepth 100000 in
theorem c_X7_quantile_n (l : Launch) (L : Lay) (σ : St) {X : SS} {hh : List SS} {t : List Int32} (hc : CR σ X hh t) (hX : XI X) {x : Int32} (hx2 : x.toInt < 0 ∨ 2 < x.toInt) (y0 : Int32) : Mg l L yX7_quantile (Cond.code yX7_quantile cX7_quantile 4 (some FieldType.int) :: qA) rX7_quantile_n [.ref (ad L 244), .int x, .int y0] σ (fun r u => r = some (.int cINV) ∧ CR u X hh t) := by
  refine Mr_ofW (by decide) (Nat.le_of_ble_eq_true rfl) ?_
  intro p e s m args below meth c ls post hp hI S hr hlk hK h hl
  have hx := S.1
  have hb := S.2.1
  have hok := h.ok
  have hl : lv_has ls 4 [(0, .ref (ad L 244)), (1, .int x), (2, .int y0)] := hl
  refine lv_aload_n hx hb dX7_quantile_0 rfl (lv_at hl 0 rfl) ?_
  refine g_main S hK h (by decide) 0 0 (by decide) rfl rfl q_173 dX7_quantile_1 ?_
  refine lv_iload_n hx hb dX7_quantile_4 rfl (lv_at hl 1 rfl) ?_
  refine q_V1 (ci := 5) S hI hK h [.int x] (c_X5_digestAt_n l L σ (by decide) hx2) (by decide) rfl (by decide) q_196 q_197 q_198 q_2 q_199 yd_X5_digestAt rfl ⟨⟨rfl, rfl⟩, ⟨(Nat.le_of_ble_eq_true rfl), (Nat.le_of_ble_eq_true rfl)⟩, Nat.le_refl _, Nat.le_refl _⟩ rfl (Nat.le_of_ble_eq_true rfl) hl.1 dX7_quantile_5 (fun H locs h => ?_)
  refine lv_astore_nN (lv' := [(3, .null), (0, .ref (ad L 244)), (1, .int x), (2, .int y0)]) hx hb dX7_quantile_8 rfl hl (by decide) rfl (fun ls hl => ?_)
  refine lv_aload_nN hx hb dX7_quantile_9 rfl (lv_at hl 0 rfl) ?_
  refine lv_ifnullN (tgt := 24) hx hb dX7_quantile_10 (by decide) ?_
  refine lv_ldc (v := (-1000001 : Int32)) hx hb S.2.2.2.1 (S.2.2.2.2 _ q_203) dX7_quantile_24 ?_
  exact e_i S hK h hr hlk dX7_quantile_26 (hp _ _ ⟨rfl, hc⟩)

abbrev rX7_truth_n : Room := { frames := 1, cells := 0, slots := 0, locals := 21 }
theorem yd_X7_truth : ydV yX7_truth RX7 2 := ⟨rfl, by decide +kernel, by decide +kernel, by decide +kernel⟩
set_option maxHeartbeats 4000000 in
set_option maxRecDepth 100000 in
theorem c_X7_truth_n (l : Launch) (L : Lay) (σ : St) {X : SS} {hh : List SS} {t : List Int32} (hc : CR σ X hh t) (hX : XI X) {x : Int32} (hx2 : x.toInt < 0 ∨ 2 < x.toInt) (y0 : Int32) : Mg l L yX7_truth (Cond.code yX7_truth cX7_truth 4 (some FieldType.int) :: qA) rX7_truth_n [.ref (ad L 244), .int x, .int y0] σ (fun r u => r = some (.int cINV) ∧ CR u X hh t) := by
  refine Mr_ofW (by decide) (Nat.le_of_ble_eq_true rfl) ?_
  intro p e s m args below meth c ls post hp hI S hr hlk hK h hl
  have hx := S.1
  have hb := S.2.1
  have hok := h.ok
  have hl : lv_has ls 4 [(0, .ref (ad L 244)), (1, .int x), (2, .int y0)] := hl
  refine lv_aload_n hx hb dX7_truth_0 rfl (lv_at hl 0 rfl) ?_
  refine g_main S hK h (by decide) 0 0 (by decide) rfl rfl q_173 dX7_truth_1 ?_
  refine lv_iload_n hx hb dX7_truth_4 rfl (lv_at hl 1 rfl) ?_
  refine q_V1 (ci := 5) S hI hK h [.int x] (c_X5_digestAt_n l L σ (by decide) hx2) (by decide) rfl (by decide) q_196 q_197 q_198 q_2 q_199 yd_X5_digestAt rfl ⟨⟨rfl, rfl⟩, ⟨(Nat.le_of_ble_eq_true rfl), (Nat.le_of_ble_eq_true rfl)⟩, Nat.le_refl _, Nat.le_refl _⟩ rfl (Nat.le_of_ble_eq_true rfl) hl.1 dX7_truth_5 (fun H locs h => ?_)
  refine lv_astore_nN (lv' := [(3, .null), (0, .ref (ad L 244)), (1, .int x), (2, .int y0)]) hx hb dX7_truth_8 rfl hl (by decide) rfl (fun ls hl => ?_)
  refine lv_aload_nN hx hb dX7_truth_9 rfl (lv_at hl 0 rfl) ?_
  refine lv_ifnullN (tgt := 24) hx hb dX7_truth_10 (by decide) ?_
  refine lv_ldc (v := (-1000001 : Int32)) hx hb S.2.2.2.1 (S.2.2.2.2 _ q_203) dX7_truth_24 ?_
  exact e_i S hK h hr hlk dX7_truth_26 (hp _ _ ⟨rfl, hc⟩)

abbrev rX7_worst_n : Room := { frames := 1, cells := 0, slots := 0, locals := 21 }
theorem yd_X7_worst : ydV yX7_worst RX7 2 := ⟨rfl, by decide +kernel, by decide +kernel, by decide +kernel⟩
set_option maxHeartbeats 4000000 in
set_option maxRecDepth 100000 in
theorem c_X7_worst_n (l : Launch) (L : Lay) (σ : St) {X : SS} {hh : List SS} {t : List Int32} (hc : CR σ X hh t) (hX : XI X) {x : Int32} (hx2 : x.toInt < 0 ∨ 2 < x.toInt) (y0 : Int32) : Mg l L yX7_worst (Cond.code yX7_worst cX7_worst 8 (some FieldType.int) :: qA) rX7_worst_n [.ref (ad L 244), .int x, .int y0] σ (fun r u => r = some (.int cINV) ∧ CR u X hh t) := by
  refine Mr_ofW (by decide) (Nat.le_of_ble_eq_true rfl) ?_
  intro p e s m args below meth c ls post hp hI S hr hlk hK h hl
  have hx := S.1
  have hb := S.2.1
  have hok := h.ok
  have hl : lv_has ls 8 [(0, .ref (ad L 244)), (1, .int x), (2, .int y0)] := hl
  refine lv_aload_n hx hb dX7_worst_0 rfl (lv_at hl 0 rfl) ?_
  refine g_main S hK h (by decide) 0 0 (by decide) rfl rfl q_173 dX7_worst_1 ?_
  refine lv_iload_n hx hb dX7_worst_4 rfl (lv_at hl 1 rfl) ?_
  refine q_V1 (ci := 5) S hI hK h [.int x] (c_X5_digestAt_n l L σ (by decide) hx2) (by decide) rfl (by decide) q_196 q_197 q_198 q_2 q_199 yd_X5_digestAt rfl ⟨⟨rfl, rfl⟩, ⟨(Nat.le_of_ble_eq_true rfl), (Nat.le_of_ble_eq_true rfl)⟩, Nat.le_refl _, Nat.le_refl _⟩ rfl (Nat.le_of_ble_eq_true rfl) hl.1 dX7_worst_5 (fun H locs h => ?_)
  refine lv_astore_nN (lv' := [(3, .null), (0, .ref (ad L 244)), (1, .int x), (2, .int y0)]) hx hb dX7_worst_8 rfl hl (by decide) rfl (fun ls hl => ?_)
  refine lv_aload_nN hx hb dX7_worst_9 rfl (lv_at hl 0 rfl) ?_
  refine lv_ifnullN (tgt := 22) hx hb dX7_worst_10 (by decide) ?_
  refine lv_ldc (v := (-1000001 : Int32)) hx hb S.2.2.2.1 (S.2.2.2.2 _ q_203) dX7_worst_22 ?_
  exact e_i S hK h hr hlk dX7_worst_24 (hp _ _ ⟨rfl, hc⟩)

abbrev rX7_rank_n : Room := { frames := 1, cells := 0, slots := 0, locals := 21 }
theorem yd_X7_rank : ydV yX7_rank RX7 2 := ⟨rfl, by decide +kernel, by decide +kernel, by decide +kernel⟩
set_option maxHeartbeats 4000000 in
set_option maxRecDepth 100000 in
theorem c_X7_rank_n (l : Launch) (L : Lay) (σ : St) {X : SS} {hh : List SS} {t : List Int32} (hc : CR σ X hh t) (hX : XI X) {x : Int32} (hx2 : x.toInt < 0 ∨ 2 < x.toInt) (y0 : Int32) : Mg l L yX7_rank (Cond.code yX7_rank cX7_rank 4 (some FieldType.int) :: qA) rX7_rank_n [.ref (ad L 244), .int x, .int y0] σ (fun r u => r = some (.int cINV) ∧ CR u X hh t) := by
  refine Mr_ofW (by decide) (Nat.le_of_ble_eq_true rfl) ?_
  intro p e s m args below meth c ls post hp hI S hr hlk hK h hl
  have hx := S.1
  have hb := S.2.1
  have hok := h.ok
  have hl : lv_has ls 4 [(0, .ref (ad L 244)), (1, .int x), (2, .int y0)] := hl
  refine lv_aload_n hx hb dX7_rank_0 rfl (lv_at hl 0 rfl) ?_
  refine g_main S hK h (by decide) 0 0 (by decide) rfl rfl q_173 dX7_rank_1 ?_
  refine lv_iload_n hx hb dX7_rank_4 rfl (lv_at hl 1 rfl) ?_
  refine q_V1 (ci := 5) S hI hK h [.int x] (c_X5_digestAt_n l L σ (by decide) hx2) (by decide) rfl (by decide) q_196 q_197 q_198 q_2 q_199 yd_X5_digestAt rfl ⟨⟨rfl, rfl⟩, ⟨(Nat.le_of_ble_eq_true rfl), (Nat.le_of_ble_eq_true rfl)⟩, Nat.le_refl _, Nat.le_refl _⟩ rfl (Nat.le_of_ble_eq_true rfl) hl.1 dX7_rank_5 (fun H locs h => ?_)
  refine lv_astore_nN (lv' := [(3, .null), (0, .ref (ad L 244)), (1, .int x), (2, .int y0)]) hx hb dX7_rank_8 rfl hl (by decide) rfl (fun ls hl => ?_)
  refine lv_aload_nN hx hb dX7_rank_9 rfl (lv_at hl 0 rfl) ?_
  refine lv_ifnullN (tgt := 24) hx hb dX7_rank_10 (by decide) ?_
  refine lv_ldc (v := (-1000001 : Int32)) hx hb S.2.2.2.1 (S.2.2.2.2 _ q_203) dX7_rank_24 ?_
  exact e_i S hK h hr hlk dX7_rank_26 (hp _ _ ⟨rfl, hc⟩)

abbrev rX7_width_n : Room := { frames := 1, cells := 0, slots := 0, locals := 21 }
theorem yd_X7_width : ydV yX7_width RX7 2 := ⟨rfl, by decide +kernel, by decide +kernel, by decide +kernel⟩
set_option maxHeartbeats 4000000 in
set_option maxRecDepth 100000 in
theorem c_X7_width_n (l : Launch) (L : Lay) (σ : St) {X : SS} {hh : List SS} {t : List Int32} (hc : CR σ X hh t) (hX : XI X) {x : Int32} (hx2 : x.toInt < 0 ∨ 2 < x.toInt) (y0 : Int32) : Mg l L yX7_width (Cond.code yX7_width cX7_width 4 (some FieldType.int) :: qA) rX7_width_n [.ref (ad L 244), .int x, .int y0] σ (fun r u => r = some (.int cINV) ∧ CR u X hh t) := by
  refine Mr_ofW (by decide) (Nat.le_of_ble_eq_true rfl) ?_
  intro p e s m args below meth c ls post hp hI S hr hlk hK h hl
  have hx := S.1
  have hb := S.2.1
  have hok := h.ok
  have hl : lv_has ls 4 [(0, .ref (ad L 244)), (1, .int x), (2, .int y0)] := hl
  refine lv_aload_n hx hb dX7_width_0 rfl (lv_at hl 0 rfl) ?_
  refine g_main S hK h (by decide) 0 0 (by decide) rfl rfl q_173 dX7_width_1 ?_
  refine lv_iload_n hx hb dX7_width_4 rfl (lv_at hl 1 rfl) ?_
  refine q_V1 (ci := 5) S hI hK h [.int x] (c_X5_digestAt_n l L σ (by decide) hx2) (by decide) rfl (by decide) q_196 q_197 q_198 q_2 q_199 yd_X5_digestAt rfl ⟨⟨rfl, rfl⟩, ⟨(Nat.le_of_ble_eq_true rfl), (Nat.le_of_ble_eq_true rfl)⟩, Nat.le_refl _, Nat.le_refl _⟩ rfl (Nat.le_of_ble_eq_true rfl) hl.1 dX7_width_5 (fun H locs h => ?_)
  refine lv_astore_nN (lv' := [(3, .null), (0, .ref (ad L 244)), (1, .int x), (2, .int y0)]) hx hb dX7_width_8 rfl hl (by decide) rfl (fun ls hl => ?_)
  refine lv_aload_nN hx hb dX7_width_9 rfl (lv_at hl 0 rfl) ?_
  refine lv_ifnullN (tgt := 24) hx hb dX7_width_10 (by decide) ?_
  refine lv_ldc (v := (-1000001 : Int32)) hx hb S.2.2.2.1 (S.2.2.2.2 _ q_203) dX7_width_24 ?_
  exact e_i S hK h hr hlk dX7_width_26 (hp _ _ ⟨rfl, hc⟩)

abbrev rX7_settingFor_n : Room := { frames := 1, cells := 0, slots := 0, locals := 21 }
abbrev rX7_add : Room := { frames := 6, cells := 0, slots := 0, locals := 166 }
set_option maxHeartbeats 4000000 in
set_option maxRecDepth 100000 in
theorem c_X7_add (l : Launch) (L : Lay) (σ : St) {X : SS} {hh : List SS} {t : List Int32} (hc : CR σ X hh t) (hX : XI X) {i : Nat} (hi : i < 3) (v tm : Int32) : Mg l L yX7_add (Cond.code yX7_add cX7_add 6 (some FieldType.int) :: qA) rX7_add [.ref (ad L 244), .int (nI i), .int v, .int tm] σ (fun r u => r = some (.int (cAdd X hh i v tm).1) ∧ CR u (cAdd X hh i v tm).2.1 (cAdd X hh i v tm).2.2 t) := by
  refine Mr_ofW (by decide) (Nat.le_of_ble_eq_true rfl) ?_
  intro p e s m args below meth c ls post hp hI S hr hlk hK h hl
  have hx := S.1
  have hb := S.2.1
  have hok := h.ok
  have hl : lv_has ls 6 [(0, .ref (ad L 244)), (1, .int (nI i)), (2, .int v), (3, .int tm)] := hl
  have hst : σ 1 = [X.1, X.2.1] := hc.1.1
  have hok0 := hok
  have hD := CR_D hc hi
  obtain ⟨la, lb, lc, ld⟩ := hX.1 i hi
  unfold cAdd at hp
  refine lv_aload_n hx hb dX7_add_0 rfl (lv_at hl 0 rfl) ?_
  refine g_main S hK h (by decide) 0 0 (by decide) rfl rfl q_173 dX7_add_1 ?_
  refine lv_iload_n hx hb dX7_add_4 rfl (lv_at hl 1 rfl) ?_
  refine q_V1 (ci := 5) S hI hK h [.int (nI i)] (c_X5_digestAt l L σ (by decide) hi) (by decide) rfl (by decide) q_196 q_197 q_198 q_2 q_199 yd_X5_digestAt rfl ⟨⟨rfl, rfl⟩, ⟨(Nat.le_of_ble_eq_true rfl), (Nat.le_of_ble_eq_true rfl)⟩, Nat.le_refl _, Nat.le_refl _⟩ rfl (Nat.le_of_ble_eq_true rfl) hl.1 dX7_add_5 (fun H locs h => ?_)
  refine lv_astore (lv' := [(4, .ref (ad L (3 + 14 * i))), (0, .ref (ad L 244)), (1, .int (nI i)), (2, .int v), (3, .int tm)]) hx hb dX7_add_8 hl (by decide) rfl (fun ls hl => ?_)
  refine lv_aload hx hb dX7_add_10 (lv_at hl 0 rfl) ?_
  refine lv_ifnull hx hb dX7_add_12 ?_
  refine lv_iload_n hx hb dX7_add_15 rfl (lv_at hl 3 rfl) ?_
  refine lv_iconst (v := (nI 0)) hx hb dX7_add_16 (by decide) ?_
  refine lv_sipush (v := (nI 9999)) hx hb dX7_add_17 (by decide) ?_
  refine q_S1 S hI hK h [.int v, .int (nI 0), .int (nI 9999)] (c_X7_isWithin l L σ v (nI 0) (nI 9999)) q_200 q_201 q_1 q_202 yd_X7_isWithin rfl ⟨⟨rfl, rfl⟩, ⟨(Nat.le_of_ble_eq_true rfl), (Nat.le_of_ble_eq_true rfl)⟩, Nat.le_refl _, Nat.le_refl _⟩ rfl (Nat.le_of_ble_eq_true rfl) hl.1 dX7_add_20 (fun H locs h => ?_)
  refine z_eq (tgt := 36) hx hb dX7_add_23 (by decide) (fun c_23 => ?_) (fun c_23 => ?_)
  · rw [if_pos c_23] at hp
    refine lv_ldc (v := (-1000001 : Int32)) hx hb S.2.2.2.1 (S.2.2.2.2 _ q_203) dX7_add_36 ?_
    exact e_i S hK h hr hlk dX7_add_38 (hp _ _ ⟨rfl, hc⟩)
  · rw [if_neg (fun q => q c_23)] at hp
    refine lv_iload_n hx hb dX7_add_26 rfl (lv_at hl 4 rfl) ?_
    refine lv_iconst (v := (nI 1)) hx hb dX7_add_27 (by decide) ?_
    refine lv_bipush (v := (nI 20)) hx hb dX7_add_28 (by decide) ?_
    refine q_S1 S hI hK h [.int tm, .int (nI 1), .int (nI 20)] (c_X7_isWithin l L σ tm (nI 1) (nI 20)) q_200 q_201 q_1 q_202 yd_X7_isWithin rfl ⟨⟨rfl, rfl⟩, ⟨(Nat.le_of_ble_eq_true rfl), (Nat.le_of_ble_eq_true rfl)⟩, Nat.le_refl _, Nat.le_refl _⟩ rfl (Nat.le_of_ble_eq_true rfl) hl.1 dX7_add_30 (fun H locs h => ?_)
    refine z_ne (tgt := 39) hx hb dX7_add_33 (by decide) (fun c_33 => ?_) (fun c_33 => ?_)
    · rw [if_neg (fun q => q c_33)] at hp
      refine lv_aload hx hb dX7_add_39 (lv_at hl 0 rfl) ?_
      refine q_V1 (ci := 0) S hI hK h [] (c_X0_weight l L σ (kd314 hi) hD) (kd314 hi) rfl (by decide) q_204 q_205 q_206 q_5 q_207 yd_X0_weight rfl ⟨⟨rfl, rfl⟩, ⟨(Nat.le_of_ble_eq_true rfl), (Nat.le_of_ble_eq_true rfl)⟩, Nat.le_refl _, Nat.le_refl _⟩ rfl (Nat.le_of_ble_eq_true rfl) hl.1 dX7_add_41 (fun H locs h => ?_)
      refine cv_i (show (dW ((X.2.2 i).1) ((X.2.2 i).2.1) : Int32) = nI ((X.2.2 i).2.2.1.length) from ld) ?_
      refine lv_iload_n hx hb dX7_add_44 rfl (lv_at hl 4 rfl) ?_
      refine lv_iadd hx hb dX7_add_45 ?_
      refine lv_sipush (v := (nI 200)) hx hb dX7_add_46 (by decide) ?_
      refine lv_icmp_le (tgt := 55) hx hb dX7_add_49 (by decide) (fun c_49 => ?_) (fun c_49 => ?_)
      · rw [if_neg (Int32.not_lt.mpr c_49)] at hp
        obtain ⟨n, hn1, hn2, rfl⟩ := rng_nat (a := 1) (b := 20) (by omega) (by omega) c_33
        rw [nI_add] at c_49
        have hVn := (nI_leI (by omega) (by omega)).mp c_49
        rw [nI_clamp (show n < 2 ^ 31 by omega)] at hp
        refine lv_aload_n hx hb dX7_add_55 rfl (lv_at hl 1 rfl) ?_
        refine g_main S hK h (by decide) 1 225 (by decide) rfl rfl q_174 dX7_add_56 ?_
        refine lv_aload_n hx hb dX7_add_59 rfl (lv_at hl 1 rfl) ?_
        refine g_main S hK h (by decide) 0 0 (by decide) rfl rfl q_173 dX7_add_60 ?_
        refine q_VR0 (ci := 2) S hI hK h [.ref (ad L 0)] (c_X2_record l L σ hc) (by decide) rfl (by decide) q_221 q_222 q_223 q_7 q_224 yd_X2_record rfl ⟨⟨rfl, rfl⟩, ⟨(Nat.le_of_ble_eq_true rfl), (Nat.le_of_ble_eq_true rfl)⟩, Nat.le_refl _, Nat.le_refl _⟩ rfl (Nat.le_of_ble_eq_true rfl) hl.1 dX7_add_63 (fun σ1 H locs hp9 h => ?_)
        obtain ⟨hc1, ho1⟩ := hp9
        have hD1 := CR_D hc1 hi
        have hst1 : σ1 1 = [X.1, X.2.1] := hc1.1.1
        refine lv_iconst (v := (nI 0)) hx hb dX7_add_66 (by decide) ?_
        refine lv_istore (lv' := [(5, .int (nI 0)), (4, .ref (ad L (3 + 14 * i))), (0, .ref (ad L 244)), (1, .int (nI i)), (2, .int v), (3, .int (nI n))]) hx hb dX7_add_67 hl (by decide) rfl (fun ls hl => ?_)
        have LP_69 : ∀ (n_69 : Nat) (k : Nat) (σ2 : St), (k ≤ n) → (CR σ2 (setD X i (rcvN X.1 X.2.1 (X.2.2 i) v k)) (recH hh X) t) → n - k < n_69 → ∀ (H : Heap) (locs : List Loc) (ls : Array Slot), Hd L s.heap H σ2 locs → lv_has ls 6 [(5, .int (nI k)), (4, .ref (ad L (3 + 14 * i))), (3, .int (nI n)), (2, .int v), (1, .int (nI i)), (0, .ref (ad L 244))] → W p l e rX7_add s m args below meth c H locs 0 0 (MQ below (Qg post (bs L) (Aw L)) args s 0 0 (Aw L)) (F0 m 69 ls []) := by
          intro n_69
          induction n_69 with
          | zero => intro k σ2; intros; omega
          | succ n_69 ih_69 =>
            intro k σ2 hk hcr hm_69 H locs ls h hl
            have hok := h.ok
            have hDk := CR_D hcr hi
            rw [setD_i] at hDk
            obtain ⟨ra, rb⟩ := rcvN_len (s0 := X.1) (s1 := X.2.1) (v := v) la k
            have hsk : σ2 1 = [X.1, X.2.1] := hcr.1.1
            refine lv_iload hx hb dX7_add_69 (lv_at hl 0 rfl) ?_
            refine lv_iload_n hx hb dX7_add_71 rfl (lv_at hl 2 rfl) ?_
            refine b_icmp_ge (tgt := 94) hx hb dX7_add_72 (by decide) (by omega) (by omega) (fun c_72 => ?_) (fun c_72 => ?_)
            · have e4 : k = n := by omega
              refine lv_aload hx hb dX7_add_94 (lv_at hl 1 rfl) ?_
              refine q_V1 (ci := 0) S hI hK h [] (c_X0_weight l L σ2 (kd314 hi) hDk) (kd314 hi) rfl (by decide) q_204 q_205 q_206 q_5 q_207 yd_X0_weight rfl ⟨⟨rfl, rfl⟩, ⟨(Nat.le_of_ble_eq_true rfl), (Nat.le_of_ble_eq_true rfl)⟩, Nat.le_refl _, Nat.le_refl _⟩ rfl (Nat.le_of_ble_eq_true rfl) hl.1 dX7_add_96 (fun H locs h => ?_)
              exact e_i S hK h hr hlk dX7_add_99 (hp _ _ ⟨by rw [← e4], by rw [← e4]; exact hcr⟩)
            · refine lv_aload hx hb dX7_add_75 (lv_at hl 1 rfl) ?_
              refine lv_iload_n hx hb dX7_add_77 rfl (lv_at hl 3 rfl) ?_
              refine lv_aload_n hx hb dX7_add_78 rfl (lv_at hl 5 rfl) ?_
              refine g_main S hK h (by decide) 0 0 (by decide) rfl rfl q_173 dX7_add_79 ?_
              refine g_settings S hK h (by decide) q_101 dX7_add_82 ?_
              refine q_V0 (ci := 0) S hI hK h [.int v, .ref (ad L 1)] (c_X0_receive l L σ2 (kd314 hi) (by decide) (by omega) hDk hsk hX.2 (by omega) (by omega) v) (kd314 hi) rfl (by decide) q_257 q_258 q_259 q_5 q_260 yd_X0_receive rfl ⟨⟨rfl, rfl⟩, ⟨(Nat.le_of_ble_eq_true rfl), (Nat.le_of_ble_eq_true rfl)⟩, Nat.le_refl _, Nat.le_refl _⟩ rfl (Nat.le_of_ble_eq_true rfl) hl.1 dX7_add_85 (fun H locs h => ?_)
              refine lv_iinc (v := (nI (k + 1))) (lv' := [(5, .int (nI (k + 1))), (4, .ref (ad L (3 + 14 * i))), (3, .int (nI n)), (2, .int v), (1, .int (nI i)), (0, .ref (ad L 244))]) hx hb dX7_add_88 hl (k := 0) rfl (iinc_1 _) (by decide) rfl (fun ls hl => ?_)
              refine lv_goto (tgt := 69) hx hb dX7_add_91 (by decide) ?_
              exact ih_69 (k + 1) (dx σ2 (3 + 14 * i) (rcvD X.1 X.2.1 (rcvN X.1 X.2.1 (X.2.2 i) v k) v)) (by omega) (by have q9 := CR_dx (D := rcvD X.1 X.2.1 (rcvN X.1 X.2.1 (X.2.2 i) v k) v) hcr hi; rw [setD_setD] at q9; exact q9) (by omega) _ _ _ h (lv_sub hl [0, 1, 2, 3, 4, 5] rfl)
        exact LP_69 _ 0 σ1 (by omega) (by rw [rcvN, setD_id]; exact hc1) (Nat.lt_succ_self _) _ _ _ h (lv_sub hl [0, 1, 5, 4, 3, 2] rfl)
      · rw [if_pos (Int32.not_le.mp c_49)] at hp
        refine lv_ldc (v := (-1000003 : Int32)) hx hb S.2.2.2.1 (S.2.2.2.2 _ q_220) dX7_add_52 ?_
        exact e_i S hK h hr hlk dX7_add_54 (hp _ _ ⟨rfl, hc⟩)
    · rw [if_pos c_33] at hp
      refine lv_ldc (v := (-1000001 : Int32)) hx hb S.2.2.2.1 (S.2.2.2.2 _ q_203) dX7_add_36 ?_
      exact e_i S hK h hr hlk dX7_add_38 (hp _ _ ⟨rfl, hc⟩)

abbrev rX7_pack : Room := { frames := 6, cells := 0, slots := 0, locals := 166 }
set_option maxHeartbeats 4000000 in
set_option maxRecDepth 100000 in
theorem c_X7_pack (l : Launch) (L : Lay) (σ : St) {X : SS} {hh : List SS} {t : List Int32} (hc : CR σ X hh t) (hX : XI X) {i : Nat} (hi : i < 3) : Mg l L yX7_pack (Cond.code yX7_pack cX7_pack 3 (some FieldType.int) :: qA) rX7_pack [.ref (ad L 244), .int (nI i)] σ (fun r u => r = some (.int (cPack X hh i).1) ∧ CR u (cPack X hh i).2.1 (cPack X hh i).2.2 t) := by
  refine Mr_ofW (by decide) (Nat.le_of_ble_eq_true rfl) ?_
  intro p e s m args below meth c ls post hp hI S hr hlk hK h hl
  have hx := S.1
  have hb := S.2.1
  have hok := h.ok
  have hl : lv_has ls 3 [(0, .ref (ad L 244)), (1, .int (nI i))] := hl
  have hst : σ 1 = [X.1, X.2.1] := hc.1.1
  have hok0 := hok
  have hD := CR_D hc hi
  obtain ⟨la, lb, lc, ld⟩ := hX.1 i hi
  unfold cPack at hp
  refine lv_aload_n hx hb dX7_pack_0 rfl (lv_at hl 0 rfl) ?_
  refine g_main S hK h (by decide) 0 0 (by decide) rfl rfl q_173 dX7_pack_1 ?_
  refine lv_iload_n hx hb dX7_pack_4 rfl (lv_at hl 1 rfl) ?_
  refine q_V1 (ci := 5) S hI hK h [.int (nI i)] (c_X5_digestAt l L σ (by decide) hi) (by decide) rfl (by decide) q_196 q_197 q_198 q_2 q_199 yd_X5_digestAt rfl ⟨⟨rfl, rfl⟩, ⟨(Nat.le_of_ble_eq_true rfl), (Nat.le_of_ble_eq_true rfl)⟩, Nat.le_refl _, Nat.le_refl _⟩ rfl (Nat.le_of_ble_eq_true rfl) hl.1 dX7_pack_5 (fun H locs h => ?_)
  refine lv_astore_n (lv' := [(2, .ref (ad L (3 + 14 * i))), (0, .ref (ad L 244)), (1, .int (nI i))]) hx hb dX7_pack_8 rfl hl (by decide) rfl (fun ls hl => ?_)
  refine lv_aload_n hx hb dX7_pack_9 rfl (lv_at hl 0 rfl) ?_
  refine lv_ifnonnull (tgt := 16) hx hb dX7_pack_10 (by decide) ?_
  refine lv_aload_n hx hb dX7_pack_16 rfl (lv_at hl 1 rfl) ?_
  refine g_main S hK h (by decide) 1 225 (by decide) rfl rfl q_174 dX7_pack_17 ?_
  refine lv_aload_n hx hb dX7_pack_20 rfl (lv_at hl 1 rfl) ?_
  refine g_main S hK h (by decide) 0 0 (by decide) rfl rfl q_173 dX7_pack_21 ?_
  refine q_VR0 (ci := 2) S hI hK h [.ref (ad L 0)] (c_X2_record l L σ hc) (by decide) rfl (by decide) q_221 q_222 q_223 q_7 q_224 yd_X2_record rfl ⟨⟨rfl, rfl⟩, ⟨(Nat.le_of_ble_eq_true rfl), (Nat.le_of_ble_eq_true rfl)⟩, Nat.le_refl _, Nat.le_refl _⟩ rfl (Nat.le_of_ble_eq_true rfl) hl.1 dX7_pack_24 (fun σ1 H locs hp9 h => ?_)
  obtain ⟨hc1, ho1⟩ := hp9
  have hD1 := CR_D hc1 hi
  have hst1 : σ1 1 = [X.1, X.2.1] := hc1.1.1
  refine lv_aload_n hx hb dX7_pack_27 rfl (lv_at hl 0 rfl) ?_
  refine lv_aload_n hx hb dX7_pack_28 rfl (lv_at hl 1 rfl) ?_
  refine g_main S hK h (by decide) 0 0 (by decide) rfl rfl q_173 dX7_pack_29 ?_
  refine g_settings S hK h (by decide) q_101 dX7_pack_32 ?_
  refine lv_iconst (v := (nI 0)) hx hb dX7_pack_35 (by decide) ?_
  refine q_V1 (ci := 4) S hI hK h [.int (nI 0)] (c_X4_at l L σ1 (by decide) (by omega)) (by decide) rfl (by decide) q_338 q_213 q_214 q_3 q_215 yd_X4_at rfl ⟨⟨rfl, rfl⟩, ⟨(Nat.le_of_ble_eq_true rfl), (Nat.le_of_ble_eq_true rfl)⟩, Nat.le_refl _, Nat.le_refl _⟩ rfl (Nat.le_of_ble_eq_true rfl) hl.1 dX7_pack_36 (fun H locs h => ?_)
  refine cv_i (show ((σ1 1).getD 0 0 : Int32) = X.1 from (by rw [hst1]; rfl)) ?_
  refine q_V0 (ci := 0) S hI hK h [.int X.1] (c_X0_packBy l L σ1 (kd314 hi) hD1 (by omega) X.1) (kd314 hi) rfl (by decide) q_339 q_263 q_264 q_5 q_265 yd_X0_packBy rfl ⟨⟨rfl, rfl⟩, ⟨(Nat.le_of_ble_eq_true rfl), (Nat.le_of_ble_eq_true rfl)⟩, Nat.le_refl _, Nat.le_refl _⟩ rfl (Nat.le_of_ble_eq_true rfl) hl.1 dX7_pack_39 (fun H locs h => ?_)
  refine lv_aload_n hx hb dX7_pack_42 rfl (lv_at hl 0 rfl) ?_
  refine g_heaps S hK h (kd314 hi) q_80 dX7_pack_43 ?_
  refine q_V1 (ci := 1) S hI hK h [] (c_X1_size l L (dset σ1 (3 + 14 * i) (packL X.1 (((X.2.2 i).1) ++ ((X.2.2 i).2.1).map hunit)) [] ((X.2.2 i).2.2.1) (((X.2.2 i).2.2.2) + nI 1)) (kd0_heaps (kd314 hi)) DV.dset.1) (kd0_heaps (kd314 hi)) rfl (by decide) q_340 q_286 q_287 q_6 q_288 yd_X1_size rfl ⟨⟨rfl, rfl⟩, ⟨(Nat.le_of_ble_eq_true rfl), (Nat.le_of_ble_eq_true rfl)⟩, Nat.le_refl _, Nat.le_refl _⟩ rfl (Nat.le_of_ble_eq_true rfl) hl.1 dX7_pack_46 (fun H locs h => ?_)
  exact e_i S hK h hr hlk dX7_pack_49 (hp _ _ ⟨rfl, CR_dx (D := pkD X.1 (X.2.2 i)) hc1 hi⟩)

abbrev rX7_join : Room := { frames := 6, cells := 0, slots := 0, locals := 166 }
theorem yd_X7_join : ydV yX7_join RX7 2 := ⟨rfl, by decide +kernel, by decide +kernel, by decide +kernel⟩
set_option maxHeartbeats 4000000 in
set_option maxRecDepth 100000 in
theorem c_X7_join (l : Launch) (L : Lay) (σ : St) {X : SS} {hh : List SS} {t : List Int32} (hc : CR σ X hh t) (hX : XI X) {i j : Nat} (hi : i < 3) (hj : j < 3) : Mg l L yX7_join (Cond.code yX7_join cX7_join 5 (some FieldType.int) :: qA) rX7_join [.ref (ad L 244), .int (nI i), .int (nI j)] σ (fun r u => r = some (.int (cJoin X hh i j).1) ∧ CR u (cJoin X hh i j).2.1 (cJoin X hh i j).2.2 t) := by
  refine Mr_ofW (by decide) (Nat.le_of_ble_eq_true rfl) ?_
  intro p e s m args below meth c ls post hp hI S hr hlk hK h hl
  have hx := S.1
  have hb := S.2.1
  have hok := h.ok
  have hl : lv_has ls 5 [(0, .ref (ad L 244)), (1, .int (nI i)), (2, .int (nI j))] := hl
  have hst : σ 1 = [X.1, X.2.1] := hc.1.1
  have hok0 := hok
  have hD := CR_D hc hi
  obtain ⟨la, lb, lc, ld⟩ := hX.1 i hi
  have hE := CR_D hc hj
  obtain ⟨ea, eb, ec, ed⟩ := hX.1 j hj
  unfold cJoin at hp
  refine lv_aload_n hx hb dX7_join_0 rfl (lv_at hl 0 rfl) ?_
  refine g_main S hK h (by decide) 0 0 (by decide) rfl rfl q_173 dX7_join_1 ?_
  refine lv_iload_n hx hb dX7_join_4 rfl (lv_at hl 1 rfl) ?_
  refine q_V1 (ci := 5) S hI hK h [.int (nI i)] (c_X5_digestAt l L σ (by decide) hi) (by decide) rfl (by decide) q_196 q_197 q_198 q_2 q_199 yd_X5_digestAt rfl ⟨⟨rfl, rfl⟩, ⟨(Nat.le_of_ble_eq_true rfl), (Nat.le_of_ble_eq_true rfl)⟩, Nat.le_refl _, Nat.le_refl _⟩ rfl (Nat.le_of_ble_eq_true rfl) hl.1 dX7_join_5 (fun H locs h => ?_)
  refine lv_astore_n (lv' := [(3, .ref (ad L (3 + 14 * i))), (0, .ref (ad L 244)), (1, .int (nI i)), (2, .int (nI j))]) hx hb dX7_join_8 rfl hl (by decide) rfl (fun ls hl => ?_)
  refine lv_aload_n hx hb dX7_join_9 rfl (lv_at hl 1 rfl) ?_
  refine g_main S hK h (by decide) 0 0 (by decide) rfl rfl q_173 dX7_join_10 ?_
  refine lv_iload_n hx hb dX7_join_13 rfl (lv_at hl 3 rfl) ?_
  refine q_V1 (ci := 5) S hI hK h [.int (nI j)] (c_X5_digestAt l L σ (by decide) hj) (by decide) rfl (by decide) q_196 q_197 q_198 q_2 q_199 yd_X5_digestAt rfl ⟨⟨rfl, rfl⟩, ⟨(Nat.le_of_ble_eq_true rfl), (Nat.le_of_ble_eq_true rfl)⟩, Nat.le_refl _, Nat.le_refl _⟩ rfl (Nat.le_of_ble_eq_true rfl) hl.1 dX7_join_14 (fun H locs h => ?_)
  refine lv_astore (lv' := [(4, .ref (ad L (3 + 14 * j))), (3, .ref (ad L (3 + 14 * i))), (0, .ref (ad L 244)), (1, .int (nI i)), (2, .int (nI j))]) hx hb dX7_join_17 hl (by decide) rfl (fun ls hl => ?_)
  refine lv_aload_n hx hb dX7_join_19 rfl (lv_at hl 1 rfl) ?_
  refine lv_ifnull hx hb dX7_join_20 ?_
  refine lv_aload hx hb dX7_join_23 (lv_at hl 0 rfl) ?_
  refine lv_ifnull hx hb dX7_join_25 ?_
  refine lv_iload_n hx hb dX7_join_28 rfl (lv_at hl 3 rfl) ?_
  refine lv_iload_n hx hb dX7_join_29 rfl (lv_at hl 4 rfl) ?_
  refine b_icmp_ne (tgt := 36) hx hb dX7_join_30 (by decide) (by omega) (by omega) (fun c_30 => ?_) (fun c_30 => ?_)
  · rw [if_neg c_30] at hp
    refine lv_aload_n hx hb dX7_join_36 rfl (lv_at hl 1 rfl) ?_
    refine q_V1 (ci := 0) S hI hK h [] (c_X0_weight l L σ (kd314 hi) hD) (kd314 hi) rfl (by decide) q_204 q_205 q_206 q_5 q_207 yd_X0_weight rfl ⟨⟨rfl, rfl⟩, ⟨(Nat.le_of_ble_eq_true rfl), (Nat.le_of_ble_eq_true rfl)⟩, Nat.le_refl _, Nat.le_refl _⟩ rfl (Nat.le_of_ble_eq_true rfl) hl.1 dX7_join_37 (fun H locs h => ?_)
    refine cv_i (show (dW ((X.2.2 i).1) ((X.2.2 i).2.1) : Int32) = nI ((X.2.2 i).2.2.1.length) from ld) ?_
    refine lv_aload hx hb dX7_join_40 (lv_at hl 0 rfl) ?_
    refine q_V1 (ci := 0) S hI hK h [] (c_X0_weight l L σ (kd314 hj) hE) (kd314 hj) rfl (by decide) q_204 q_205 q_206 q_5 q_207 yd_X0_weight rfl ⟨⟨rfl, rfl⟩, ⟨(Nat.le_of_ble_eq_true rfl), (Nat.le_of_ble_eq_true rfl)⟩, Nat.le_refl _, Nat.le_refl _⟩ rfl (Nat.le_of_ble_eq_true rfl) hl.1 dX7_join_42 (fun H locs h => ?_)
    refine cv_i (show (dW ((X.2.2 j).1) ((X.2.2 j).2.1) : Int32) = nI ((X.2.2 j).2.2.1.length) from ed) ?_
    refine a_iadd hx hb dX7_join_45 ?_
    refine lv_sipush (v := (nI 200)) hx hb dX7_join_46 (by decide) ?_
    refine b_icmp_le (tgt := 55) hx hb dX7_join_49 (by decide) (by omega) (by omega) (fun c_49 => ?_) (fun c_49 => ?_)
    · rw [if_neg (Nat.not_lt.mpr c_49)] at hp
      refine lv_aload_n hx hb dX7_join_55 rfl (lv_at hl 2 rfl) ?_
      refine g_main S hK h (by decide) 1 225 (by decide) rfl rfl q_174 dX7_join_56 ?_
      refine lv_aload_n hx hb dX7_join_59 rfl (lv_at hl 2 rfl) ?_
      refine g_main S hK h (by decide) 0 0 (by decide) rfl rfl q_173 dX7_join_60 ?_
      refine q_VR0 (ci := 2) S hI hK h [.ref (ad L 0)] (c_X2_record l L σ hc) (by decide) rfl (by decide) q_221 q_222 q_223 q_7 q_224 yd_X2_record rfl ⟨⟨rfl, rfl⟩, ⟨(Nat.le_of_ble_eq_true rfl), (Nat.le_of_ble_eq_true rfl)⟩, Nat.le_refl _, Nat.le_refl _⟩ rfl (Nat.le_of_ble_eq_true rfl) hl.1 dX7_join_63 (fun σ1 H locs hp9 h => ?_)
      obtain ⟨hc1, ho1⟩ := hp9
      have hD1 := CR_D hc1 hi
      have hst1 : σ1 1 = [X.1, X.2.1] := hc1.1.1
      have hE1 := CR_D hc1 hj
      refine lv_aload hx hb dX7_join_66 (lv_at hl 0 rfl) ?_
      refine lv_aload_n hx hb dX7_join_68 rfl (lv_at hl 1 rfl) ?_
      refine lv_aload_n hx hb dX7_join_69 rfl (lv_at hl 2 rfl) ?_
      refine g_main S hK h (by decide) 0 0 (by decide) rfl rfl q_173 dX7_join_70 ?_
      refine g_settings S hK h (by decide) q_101 dX7_join_73 ?_
      refine lv_iconst (v := (nI 0)) hx hb dX7_join_76 (by decide) ?_
      refine q_V1 (ci := 4) S hI hK h [.int (nI 0)] (c_X4_at l L σ1 (by decide) (by omega)) (by decide) rfl (by decide) q_338 q_213 q_214 q_3 q_215 yd_X4_at rfl ⟨⟨rfl, rfl⟩, ⟨(Nat.le_of_ble_eq_true rfl), (Nat.le_of_ble_eq_true rfl)⟩, Nat.le_refl _, Nat.le_refl _⟩ rfl (Nat.le_of_ble_eq_true rfl) hl.1 dX7_join_77 (fun H locs h => ?_)
      refine cv_i (show ((σ1 1).getD 0 0 : Int32) = X.1 from (by rw [hst1]; rfl)) ?_
      refine q_V0 (ci := 0) S hI hK h [.ref (ad L (3 + 14 * i)), .int X.1] (c_X0_takeOver l L σ1 (kd314 hj) (kd314 hi) (by omega) hE1 hD1 (by omega) (by omega) X.1) (kd314 hj) rfl (by decide) q_345 q_346 q_347 q_5 q_348 yd_X0_takeOver rfl ⟨⟨rfl, rfl⟩, ⟨(Nat.le_of_ble_eq_true rfl), (Nat.le_of_ble_eq_true rfl)⟩, Nat.le_refl _, Nat.le_refl _⟩ rfl (Nat.le_of_ble_eq_true rfl) hl.1 dX7_join_80 (fun H locs h => ?_)
      refine lv_aload hx hb dX7_join_83 (lv_at hl 0 rfl) ?_
      refine q_V1 (ci := 0) S hI hK h [] (c_X0_weight l L (dx (dx σ1 (3 + 14 * i) (pkD X.1 (X.2.2 i))) (3 + 14 * j) (toD X.1 (X.2.2 i) (X.2.2 j))) (kd314 hj) DV.dset) (kd314 hj) rfl (by decide) q_204 q_205 q_206 q_5 q_207 yd_X0_weight rfl ⟨⟨rfl, rfl⟩, ⟨(Nat.le_of_ble_eq_true rfl), (Nat.le_of_ble_eq_true rfl)⟩, Nat.le_refl _, Nat.le_refl _⟩ rfl (Nat.le_of_ble_eq_true rfl) hl.1 dX7_join_85 (fun H locs h => ?_)
      exact e_i S hK h hr hlk dX7_join_88 (hp _ _ ⟨rfl, CR_dx (D := toD X.1 (X.2.2 i) (X.2.2 j)) (CR_dx (D := pkD X.1 (X.2.2 i)) hc1 hi) hj⟩)
    · rw [if_pos c_49] at hp
      refine lv_ldc (v := (-1000003 : Int32)) hx hb S.2.2.2.1 (S.2.2.2.2 _ q_220) dX7_join_52 ?_
      exact e_i S hK h hr hlk dX7_join_54 (hp _ _ ⟨rfl, hc⟩)
  · rw [if_pos c_30] at hp
    refine lv_ldc (v := (-1000001 : Int32)) hx hb S.2.2.2.1 (S.2.2.2.2 _ q_203) dX7_join_33 ?_
    exact e_i S hK h hr hlk dX7_join_35 (hp _ _ ⟨rfl, hc⟩)

abbrev rX7_join_n1 : Room := { frames := 1, cells := 0, slots := 0, locals := 21 }
set_option maxHeartbeats 4000000 in
set_option maxRecDepth 100000 in
theorem c_X7_join_n1 (l : Launch) (L : Lay) (σ : St) {X : SS} {hh : List SS} {t : List Int32} (hc : CR σ X hh t) (hX : XI X) {x : Int32} (hx2 : x.toInt < 0 ∨ 2 < x.toInt) {j : Nat} (hj : j < 3) : Mg l L yX7_join (Cond.code yX7_join cX7_join 5 (some FieldType.int) :: qA) rX7_join_n1 [.ref (ad L 244), .int x, .int (nI j)] σ (fun r u => r = some (.int cINV) ∧ CR u X hh t) := by
  refine Mr_ofW (by decide) (Nat.le_of_ble_eq_true rfl) ?_
  intro p e s m args below meth c ls post hp hI S hr hlk hK h hl
  have hx := S.1
  have hb := S.2.1
  have hok := h.ok
  have hl : lv_has ls 5 [(0, .ref (ad L 244)), (1, .int x), (2, .int (nI j))] := hl
  refine lv_aload_n hx hb dX7_join_0 rfl (lv_at hl 0 rfl) ?_
  refine g_main S hK h (by decide) 0 0 (by decide) rfl rfl q_173 dX7_join_1 ?_
  refine lv_iload_n hx hb dX7_join_4 rfl (lv_at hl 1 rfl) ?_
  refine q_V1 (ci := 5) S hI hK h [.int x] (c_X5_digestAt_n l L σ (by decide) hx2) (by decide) rfl (by decide) q_196 q_197 q_198 q_2 q_199 yd_X5_digestAt rfl ⟨⟨rfl, rfl⟩, ⟨(Nat.le_of_ble_eq_true rfl), (Nat.le_of_ble_eq_true rfl)⟩, Nat.le_refl _, Nat.le_refl _⟩ rfl (Nat.le_of_ble_eq_true rfl) hl.1 dX7_join_5 (fun H locs h => ?_)
  refine lv_astore_nN (lv' := [(3, .null), (0, .ref (ad L 244)), (1, .int x), (2, .int (nI j))]) hx hb dX7_join_8 rfl hl (by decide) rfl (fun ls hl => ?_)
  refine lv_aload_n hx hb dX7_join_9 rfl (lv_at hl 1 rfl) ?_
  refine g_main S hK h (by decide) 0 0 (by decide) rfl rfl q_173 dX7_join_10 ?_
  refine lv_iload_n hx hb dX7_join_13 rfl (lv_at hl 3 rfl) ?_
  refine q_V1 (ci := 5) S hI hK h [.int (nI j)] (c_X5_digestAt l L σ (by decide) hj) (by decide) rfl (by decide) q_196 q_197 q_198 q_2 q_199 yd_X5_digestAt rfl ⟨⟨rfl, rfl⟩, ⟨(Nat.le_of_ble_eq_true rfl), (Nat.le_of_ble_eq_true rfl)⟩, Nat.le_refl _, Nat.le_refl _⟩ rfl (Nat.le_of_ble_eq_true rfl) hl.1 dX7_join_14 (fun H locs h => ?_)
  refine lv_astore (lv' := [(4, .ref (ad L (3 + 14 * j))), (3, .null), (0, .ref (ad L 244)), (1, .int x), (2, .int (nI j))]) hx hb dX7_join_17 hl (by decide) rfl (fun ls hl => ?_)
  refine lv_aload_nN hx hb dX7_join_19 rfl (lv_at hl 1 rfl) ?_
  refine lv_ifnullN (tgt := 33) hx hb dX7_join_20 (by decide) ?_
  refine lv_ldc (v := (-1000001 : Int32)) hx hb S.2.2.2.1 (S.2.2.2.2 _ q_203) dX7_join_33 ?_
  exact e_i S hK h hr hlk dX7_join_35 (hp _ _ ⟨rfl, hc⟩)

abbrev rX7_join_n2 : Room := { frames := 1, cells := 0, slots := 0, locals := 21 }
set_option maxHeartbeats 4000000 in
set_option maxRecDepth 100000 in
theorem c_X7_join_n2 (l : Launch) (L : Lay) (σ : St) {X : SS} {hh : List SS} {t : List Int32} (hc : CR σ X hh t) (hX : XI X) {i : Nat} (hi : i < 3) {y : Int32} (hy2 : y.toInt < 0 ∨ 2 < y.toInt) : Mg l L yX7_join (Cond.code yX7_join cX7_join 5 (some FieldType.int) :: qA) rX7_join_n2 [.ref (ad L 244), .int (nI i), .int y] σ (fun r u => r = some (.int cINV) ∧ CR u X hh t) := by
  refine Mr_ofW (by decide) (Nat.le_of_ble_eq_true rfl) ?_
  intro p e s m args below meth c ls post hp hI S hr hlk hK h hl
  have hx := S.1
  have hb := S.2.1
  have hok := h.ok
  have hl : lv_has ls 5 [(0, .ref (ad L 244)), (1, .int (nI i)), (2, .int y)] := hl
  refine lv_aload_n hx hb dX7_join_0 rfl (lv_at hl 0 rfl) ?_
  refine g_main S hK h (by decide) 0 0 (by decide) rfl rfl q_173 dX7_join_1 ?_
  refine lv_iload_n hx hb dX7_join_4 rfl (lv_at hl 1 rfl) ?_
  refine q_V1 (ci := 5) S hI hK h [.int (nI i)] (c_X5_digestAt l L σ (by decide) hi) (by decide) rfl (by decide) q_196 q_197 q_198 q_2 q_199 yd_X5_digestAt rfl ⟨⟨rfl, rfl⟩, ⟨(Nat.le_of_ble_eq_true rfl), (Nat.le_of_ble_eq_true rfl)⟩, Nat.le_refl _, Nat.le_refl _⟩ rfl (Nat.le_of_ble_eq_true rfl) hl.1 dX7_join_5 (fun H locs h => ?_)
  refine lv_astore_n (lv' := [(3, .ref (ad L (3 + 14 * i))), (0, .ref (ad L 244)), (1, .int (nI i)), (2, .int y)]) hx hb dX7_join_8 rfl hl (by decide) rfl (fun ls hl => ?_)
  refine lv_aload_n hx hb dX7_join_9 rfl (lv_at hl 1 rfl) ?_
  refine g_main S hK h (by decide) 0 0 (by decide) rfl rfl q_173 dX7_join_10 ?_
  refine lv_iload_n hx hb dX7_join_13 rfl (lv_at hl 3 rfl) ?_
  refine q_V1 (ci := 5) S hI hK h [.int y] (c_X5_digestAt_n l L σ (by decide) hy2) (by decide) rfl (by decide) q_196 q_197 q_198 q_2 q_199 yd_X5_digestAt rfl ⟨⟨rfl, rfl⟩, ⟨(Nat.le_of_ble_eq_true rfl), (Nat.le_of_ble_eq_true rfl)⟩, Nat.le_refl _, Nat.le_refl _⟩ rfl (Nat.le_of_ble_eq_true rfl) hl.1 dX7_join_14 (fun H locs h => ?_)
  refine lv_astoreN (lv' := [(4, .null), (3, .ref (ad L (3 + 14 * i))), (0, .ref (ad L 244)), (1, .int (nI i)), (2, .int y)]) hx hb dX7_join_17 hl (by decide) rfl (fun ls hl => ?_)
  refine lv_aload_n hx hb dX7_join_19 rfl (lv_at hl 1 rfl) ?_
  refine lv_ifnull hx hb dX7_join_20 ?_
  refine lv_aloadN hx hb dX7_join_23 (lv_at hl 0 rfl) ?_
  refine lv_ifnullN (tgt := 33) hx hb dX7_join_25 (by decide) ?_
  refine lv_ldc (v := (-1000001 : Int32)) hx hb S.2.2.2.1 (S.2.2.2.2 _ q_203) dX7_join_33 ?_
  exact e_i S hK h hr hlk dX7_join_35 (hp _ _ ⟨rfl, hc⟩)

abbrev rX7_join_n3 : Room := { frames := 1, cells := 0, slots := 0, locals := 21 }
set_option maxHeartbeats 4000000 in
set_option maxRecDepth 100000 in
theorem c_X7_join_n3 (l : Launch) (L : Lay) (σ : St) {X : SS} {hh : List SS} {t : List Int32} (hc : CR σ X hh t) (hX : XI X) {x : Int32} (hx2 : x.toInt < 0 ∨ 2 < x.toInt) {y : Int32} (hy2 : y.toInt < 0 ∨ 2 < y.toInt) : Mg l L yX7_join (Cond.code yX7_join cX7_join 5 (some FieldType.int) :: qA) rX7_join_n3 [.ref (ad L 244), .int x, .int y] σ (fun r u => r = some (.int cINV) ∧ CR u X hh t) := by
  refine Mr_ofW (by decide) (Nat.le_of_ble_eq_true rfl) ?_
  intro p e s m args below meth c ls post hp hI S hr hlk hK h hl
  have hx := S.1
  have hb := S.2.1
  have hok := h.ok
  have hl : lv_has ls 5 [(0, .ref (ad L 244)), (1, .int x), (2, .int y)] := hl
  refine lv_aload_n hx hb dX7_join_0 rfl (lv_at hl 0 rfl) ?_
  refine g_main S hK h (by decide) 0 0 (by decide) rfl rfl q_173 dX7_join_1 ?_
  refine lv_iload_n hx hb dX7_join_4 rfl (lv_at hl 1 rfl) ?_
  refine q_V1 (ci := 5) S hI hK h [.int x] (c_X5_digestAt_n l L σ (by decide) hx2) (by decide) rfl (by decide) q_196 q_197 q_198 q_2 q_199 yd_X5_digestAt rfl ⟨⟨rfl, rfl⟩, ⟨(Nat.le_of_ble_eq_true rfl), (Nat.le_of_ble_eq_true rfl)⟩, Nat.le_refl _, Nat.le_refl _⟩ rfl (Nat.le_of_ble_eq_true rfl) hl.1 dX7_join_5 (fun H locs h => ?_)
  refine lv_astore_nN (lv' := [(3, .null), (0, .ref (ad L 244)), (1, .int x), (2, .int y)]) hx hb dX7_join_8 rfl hl (by decide) rfl (fun ls hl => ?_)
  refine lv_aload_n hx hb dX7_join_9 rfl (lv_at hl 1 rfl) ?_
  refine g_main S hK h (by decide) 0 0 (by decide) rfl rfl q_173 dX7_join_10 ?_
  refine lv_iload_n hx hb dX7_join_13 rfl (lv_at hl 3 rfl) ?_
  refine q_V1 (ci := 5) S hI hK h [.int y] (c_X5_digestAt_n l L σ (by decide) hy2) (by decide) rfl (by decide) q_196 q_197 q_198 q_2 q_199 yd_X5_digestAt rfl ⟨⟨rfl, rfl⟩, ⟨(Nat.le_of_ble_eq_true rfl), (Nat.le_of_ble_eq_true rfl)⟩, Nat.le_refl _, Nat.le_refl _⟩ rfl (Nat.le_of_ble_eq_true rfl) hl.1 dX7_join_14 (fun H locs h => ?_)
  refine lv_astoreN (lv' := [(4, .null), (3, .null), (0, .ref (ad L 244)), (1, .int x), (2, .int y)]) hx hb dX7_join_17 hl (by decide) rfl (fun ls hl => ?_)
  refine lv_aload_nN hx hb dX7_join_19 rfl (lv_at hl 1 rfl) ?_
  refine lv_ifnullN (tgt := 33) hx hb dX7_join_20 (by decide) ?_
  refine lv_ldc (v := (-1000001 : Int32)) hx hb S.2.2.2.1 (S.2.2.2.2 _ q_203) dX7_join_33 ?_
  exact e_i S hK h hr hlk dX7_join_35 (hp _ _ ⟨rfl, hc⟩)

abbrev rX7_clear : Room := { frames := 6, cells := 0, slots := 0, locals := 166 }
abbrev rX7_set : Room := { frames := 6, cells := 0, slots := 0, locals := 166 }
theorem yd_X7_set : ydV yX7_set RX7 2 := ⟨rfl, by decide +kernel, by decide +kernel, by decide +kernel⟩
set_option maxHeartbeats 4000000 in
set_option maxRecDepth 100000 in
theorem c_X7_set (l : Launch) (L : Lay) (σ : St) {X : SS} {hh : List SS} {t : List Int32} (hc : CR σ X hh t) (hX : XI X) (w v : Int32) : Mg l L yX7_set (Cond.code yX7_set cX7_set 4 (some FieldType.int) :: qA) rX7_set [.ref (ad L 244), .int w, .int v] σ (fun r u => r = some (.int (cSet X hh w v).1) ∧ CR u (cSet X hh w v).2.1 (cSet X hh w v).2.2 t) := by
  refine Mr_ofW (by decide) (Nat.le_of_ble_eq_true rfl) ?_
  intro p e s m args below meth c ls post hp hI S hr hlk hK h hl
  have hx := S.1
  have hb := S.2.1
  have hok := h.ok
  have hl : lv_has ls 4 [(0, .ref (ad L 244)), (1, .int w), (2, .int v)] := hl
  have hst : σ 1 = [X.1, X.2.1] := hc.1.1
  have hok0 := hok
  unfold cSet at hp
  refine lv_iload_n hx hb dX7_set_0 rfl (lv_at hl 1 rfl) ?_
  refine lv_iconst (v := (nI 0)) hx hb dX7_set_1 (by decide) ?_
  refine lv_iconst (v := (nI 1)) hx hb dX7_set_2 (by decide) ?_
  refine q_S1 S hI hK h [.int w, .int (nI 0), .int (nI 1)] (c_X7_isWithin l L σ w (nI 0) (nI 1)) q_200 q_201 q_1 q_202 yd_X7_isWithin rfl ⟨⟨rfl, rfl⟩, ⟨(Nat.le_of_ble_eq_true rfl), (Nat.le_of_ble_eq_true rfl)⟩, Nat.le_refl _, Nat.le_refl _⟩ rfl (Nat.le_of_ble_eq_true rfl) hl.1 dX7_set_3 (fun H locs h => ?_)
  refine z_eq (tgt := 21) hx hb dX7_set_6 (by decide) (fun c_6 => ?_) (fun c_6 => ?_)
  · rw [if_pos c_6] at hp
    refine lv_ldc (v := (-1000001 : Int32)) hx hb S.2.2.2.1 (S.2.2.2.2 _ q_203) dX7_set_21 ?_
    exact e_i S hK h hr hlk dX7_set_23 (hp _ _ ⟨rfl, hc⟩)
  · rw [if_neg (fun q => q c_6)] at hp
    refine lv_iload_n hx hb dX7_set_9 rfl (lv_at hl 2 rfl) ?_
    refine lv_iconst (v := (nI 1)) hx hb dX7_set_10 (by decide) ?_
    refine lv_iload_n hx hb dX7_set_11 rfl (lv_at hl 1 rfl) ?_
    refine q_S1 S hI hK h [.int w] (c_X7_highestSetting l L σ w) q_361 q_362 q_1 q_363 yd_X7_highestSetting rfl ⟨⟨rfl, rfl⟩, ⟨(Nat.le_of_ble_eq_true rfl), (Nat.le_of_ble_eq_true rfl)⟩, Nat.le_refl _, Nat.le_refl _⟩ rfl (Nat.le_of_ble_eq_true rfl) hl.1 dX7_set_12 (fun H locs h => ?_)
    refine q_S1 S hI hK h [.int v, .int (nI 1), .int (if w = 0 then nI 60 else nI 20)] (c_X7_isWithin l L σ v (nI 1) (if w = 0 then nI 60 else nI 20)) q_200 q_201 q_1 q_202 yd_X7_isWithin rfl ⟨⟨rfl, rfl⟩, ⟨(Nat.le_of_ble_eq_true rfl), (Nat.le_of_ble_eq_true rfl)⟩, Nat.le_refl _, Nat.le_refl _⟩ rfl (Nat.le_of_ble_eq_true rfl) hl.1 dX7_set_15 (fun H locs h => ?_)
    refine z_ne (tgt := 24) hx hb dX7_set_18 (by decide) (fun c_18 => ?_) (fun c_18 => ?_)
    · rw [if_neg (fun q => q c_18)] at hp
      obtain ⟨n, -, hn2, rfl⟩ := rng_nat (a := 0) (b := 1) (by omega) (by omega) c_6
      rw [nI_clamp (show n < 2 ^ 31 by omega)] at hp
      refine lv_aload_n hx hb dX7_set_24 rfl (lv_at hl 0 rfl) ?_
      refine g_main S hK h (by decide) 1 225 (by decide) rfl rfl q_174 dX7_set_25 ?_
      refine lv_aload_n hx hb dX7_set_28 rfl (lv_at hl 0 rfl) ?_
      refine g_main S hK h (by decide) 0 0 (by decide) rfl rfl q_173 dX7_set_29 ?_
      refine q_VR0 (ci := 2) S hI hK h [.ref (ad L 0)] (c_X2_record l L σ hc) (by decide) rfl (by decide) q_221 q_222 q_223 q_7 q_224 yd_X2_record rfl ⟨⟨rfl, rfl⟩, ⟨(Nat.le_of_ble_eq_true rfl), (Nat.le_of_ble_eq_true rfl)⟩, Nat.le_refl _, Nat.le_refl _⟩ rfl (Nat.le_of_ble_eq_true rfl) hl.1 dX7_set_32 (fun σ1 H locs hp9 h => ?_)
      obtain ⟨hc1, ho1⟩ := hp9
      have hst1 : σ1 1 = [X.1, X.2.1] := hc1.1.1
      refine lv_aload_n hx hb dX7_set_35 rfl (lv_at hl 0 rfl) ?_
      refine g_main S hK h (by decide) 0 0 (by decide) rfl rfl q_173 dX7_set_36 ?_
      refine g_settings S hK h (by decide) q_101 dX7_set_39 ?_
      refine lv_iload_n hx hb dX7_set_42 rfl (lv_at hl 1 rfl) ?_
      refine q_V1 (ci := 4) S hI hK h [.int (nI n)] (c_X4_at l L σ1 (by decide) (by omega)) (by decide) rfl (by decide) q_338 q_213 q_214 q_3 q_215 yd_X4_at rfl ⟨⟨rfl, rfl⟩, ⟨(Nat.le_of_ble_eq_true rfl), (Nat.le_of_ble_eq_true rfl)⟩, Nat.le_refl _, Nat.le_refl _⟩ rfl (Nat.le_of_ble_eq_true rfl) hl.1 dX7_set_43 (fun H locs h => ?_)
      refine cv_i (show ((σ1 1).getD n 0 : Int32) = [X.1, X.2.1].getD n 0 from (by rw [hst1])) ?_
      refine lv_istore_n (lv' := [(3, .int ([X.1, X.2.1].getD n 0)), (0, .ref (ad L 244)), (1, .int (nI n)), (2, .int v)]) hx hb dX7_set_46 rfl hl (by decide) rfl (fun ls hl => ?_)
      refine lv_aload_n hx hb dX7_set_47 rfl (lv_at hl 1 rfl) ?_
      refine g_main S hK h (by decide) 0 0 (by decide) rfl rfl q_173 dX7_set_48 ?_
      refine g_settings S hK h (by decide) q_101 dX7_set_51 ?_
      refine lv_iload_n hx hb dX7_set_54 rfl (lv_at hl 2 rfl) ?_
      refine lv_iload_n hx hb dX7_set_55 rfl (lv_at hl 3 rfl) ?_
      refine q_V0 (ci := 4) S hI hK h [.int (nI n), .int v] (c_X4_put l L σ1 (by decide) (by omega) v) (by decide) rfl (by decide) q_364 q_314 q_315 q_3 q_316 yd_X4_put rfl ⟨⟨rfl, rfl⟩, ⟨(Nat.le_of_ble_eq_true rfl), (Nat.le_of_ble_eq_true rfl)⟩, Nat.le_refl _, Nat.le_refl _⟩ rfl (Nat.le_of_ble_eq_true rfl) hl.1 dX7_set_56 (fun H locs h => ?_)
      refine lv_iload_n hx hb dX7_set_59 rfl (lv_at hl 0 rfl) ?_
      exact e_i S hK h hr hlk dX7_set_60 (hp _ _ ⟨rfl, CR_set hc1 (by omega)⟩)
    · rw [if_pos c_18] at hp
      refine lv_ldc (v := (-1000001 : Int32)) hx hb S.2.2.2.1 (S.2.2.2.2 _ q_203) dX7_set_21 ?_
      exact e_i S hK h hr hlk dX7_set_23 (hp _ _ ⟨rfl, hc⟩)

abbrev rX7_bufferOf : Room := { frames := 1, cells := 0, slots := 0, locals := 21 }
set_option maxHeartbeats 4000000 in
set_option maxRecDepth 100000 in
theorem c_X7_bufferOf (l : Launch) (L : Lay) (σ : St) {X : SS} {hh : List SS} {t : List Int32} (hc : CR σ X hh t) (hX : XI X) {i : Nat} (hi : i < 3) (x : Int32) : Mg l L yX7_bufferOf (Cond.code yX7_bufferOf cX7_bufferOf 4 (some FieldType.int) :: qA) rX7_bufferOf [.ref (ad L 244), .int (nI i), .int x] σ (fun r u => r = some (.int (cBuf X i x)) ∧ CR u X hh t) := by
  refine Mr_ofW (by decide) (Nat.le_of_ble_eq_true rfl) ?_
  intro p e s m args below meth c ls post hp hI S hr hlk hK h hl
  have hx := S.1
  have hb := S.2.1
  have hok := h.ok
  have hl : lv_has ls 4 [(0, .ref (ad L 244)), (1, .int (nI i)), (2, .int x)] := hl
  have hst : σ 1 = [X.1, X.2.1] := hc.1.1
  have hok0 := hok
  have hD := CR_D hc hi
  obtain ⟨la, lb, lc, ld⟩ := hX.1 i hi
  unfold cBuf at hp
  refine lv_aload_n hx hb dX7_bufferOf_0 rfl (lv_at hl 0 rfl) ?_
  refine g_main S hK h (by decide) 0 0 (by decide) rfl rfl q_173 dX7_bufferOf_1 ?_
  refine lv_iload_n hx hb dX7_bufferOf_4 rfl (lv_at hl 1 rfl) ?_
  refine q_V1 (ci := 5) S hI hK h [.int (nI i)] (c_X5_digestAt l L σ (by decide) hi) (by decide) rfl (by decide) q_196 q_197 q_198 q_2 q_199 yd_X5_digestAt rfl ⟨⟨rfl, rfl⟩, ⟨(Nat.le_of_ble_eq_true rfl), (Nat.le_of_ble_eq_true rfl)⟩, Nat.le_refl _, Nat.le_refl _⟩ rfl (Nat.le_of_ble_eq_true rfl) hl.1 dX7_bufferOf_5 (fun H locs h => ?_)
  refine lv_astore_n (lv' := [(3, .ref (ad L (3 + 14 * i))), (0, .ref (ad L 244)), (1, .int (nI i)), (2, .int x)]) hx hb dX7_bufferOf_8 rfl hl (by decide) rfl (fun ls hl => ?_)
  refine lv_aload_n hx hb dX7_bufferOf_9 rfl (lv_at hl 0 rfl) ?_
  refine lv_ifnull hx hb dX7_bufferOf_10 ?_
  refine lv_iload_n hx hb dX7_bufferOf_13 rfl (lv_at hl 3 rfl) ?_
  refine lv_if_ge (tgt := 20) hx hb dX7_bufferOf_14 (by decide) (fun c_14 => ?_) (fun c_14 => ?_)
  · rw [if_neg (Int32.not_lt.mpr c_14)] at hp
    obtain ⟨n, hn, rfl⟩ := pos_nat (Int32.not_lt.mpr c_14)
    rw [nI_clamp hn] at hp
    refine lv_iload_n hx hb dX7_bufferOf_20 rfl (lv_at hl 3 rfl) ?_
    refine lv_aload_n hx hb dX7_bufferOf_21 rfl (lv_at hl 0 rfl) ?_
    refine g_buffer S hK h (kd314 hi) q_83 dX7_bufferOf_22 ?_
    refine q_V1 (ci := 4) S hI hK h [] (c_X4_length l L σ (kd0_buf (kd314 hi))) (kd0_buf (kd314 hi)) rfl (by decide) q_383 q_217 q_218 q_3 q_219 yd_X4_length rfl ⟨⟨rfl, rfl⟩, ⟨(Nat.le_of_ble_eq_true rfl), (Nat.le_of_ble_eq_true rfl)⟩, Nat.le_refl _, Nat.le_refl _⟩ rfl (Nat.le_of_ble_eq_true rfl) hl.1 dX7_bufferOf_25 (fun H locs h => ?_)
    refine cv_i (show (nI ((σ (3 + 14 * i + 10)).length) : Int32) = nI ((X.2.2 i).2.1.length) from (by rw [hD.2.1])) ?_
    refine b_icmp_ge (tgt := 42) hx hb dX7_bufferOf_28 (by decide) (by omega) (by omega) (fun c_28 => ?_) (fun c_28 => ?_)
    · rw [if_pos ((nI_leI (by omega) (by omega)).mpr c_28)] at hp
      refine lv_ldc (v := (-1000004 : Int32)) hx hb S.2.2.2.1 (S.2.2.2.2 _ q_416) dX7_bufferOf_42 ?_
      exact e_i S hK h hr hlk dX7_bufferOf_44 (hp _ _ ⟨rfl, hc⟩)
    · rw [if_neg (fun q => absurd ((nI_leI (by omega) (by omega)).mp q) (by omega))] at hp
      refine lv_aload_n hx hb dX7_bufferOf_31 rfl (lv_at hl 0 rfl) ?_
      refine g_buffer S hK h (kd314 hi) q_83 dX7_bufferOf_32 ?_
      refine lv_iload_n hx hb dX7_bufferOf_35 rfl (lv_at hl 3 rfl) ?_
      refine q_V1 (ci := 4) S hI hK h [.int (nI n)] (c_X4_at l L σ (kd0_buf (kd314 hi)) (by omega)) (kd0_buf (kd314 hi)) rfl (by decide) q_338 q_213 q_214 q_3 q_215 yd_X4_at rfl ⟨⟨rfl, rfl⟩, ⟨(Nat.le_of_ble_eq_true rfl), (Nat.le_of_ble_eq_true rfl)⟩, Nat.le_refl _, Nat.le_refl _⟩ rfl (Nat.le_of_ble_eq_true rfl) hl.1 dX7_bufferOf_36 (fun H locs h => ?_)
      refine cv_i (show ((σ (3 + 14 * i + 10)).getD n 0 : Int32) = (X.2.2 i).2.1.getD n 0 from (by rw [hD.2.1])) ?_
      refine lv_goto (tgt := 44) hx hb dX7_bufferOf_39 (by decide) ?_
      exact e_i S hK h hr hlk dX7_bufferOf_44 (hp _ _ ⟨rfl, hc⟩)
  · rw [if_pos (Int32.not_le.mp c_14)] at hp
    refine lv_ldc (v := (-1000001 : Int32)) hx hb S.2.2.2.1 (S.2.2.2.2 _ q_203) dX7_bufferOf_17 ?_
    exact e_i S hK h hr hlk dX7_bufferOf_19 (hp _ _ ⟨rfl, hc⟩)

abbrev rX7_digestOf : Room := { frames := 5, cells := 0, slots := 0, locals := 123 }
set_option maxHeartbeats 4000000 in
set_option maxRecDepth 100000 in
theorem c_X7_digestOf (l : Launch) (L : Lay) (σ : St) {X : SS} {hh : List SS} {t : List Int32} (hc : CR σ X hh t) (hX : XI X) {i : Nat} (hi : i < 3) (w : Int32) : Mg l L yX7_digestOf (Cond.code yX7_digestOf cX7_digestOf 4 (some FieldType.int) :: qA) rX7_digestOf [.ref (ad L 244), .int (nI i), .int w] σ (fun r u => r = some (.int (cDig X i w)) ∧ CR u X hh t) := by
  refine Mr_ofW (by decide) (Nat.le_of_ble_eq_true rfl) ?_
  intro p e s m args below meth c ls post hp hI S hr hlk hK h hl
  have hx := S.1
  have hb := S.2.1
  have hok := h.ok
  have hl : lv_has ls 4 [(0, .ref (ad L 244)), (1, .int (nI i)), (2, .int w)] := hl
  have hst : σ 1 = [X.1, X.2.1] := hc.1.1
  have hok0 := hok
  have hD := CR_D hc hi
  obtain ⟨la, lb, lc, ld⟩ := hX.1 i hi
  unfold cDig at hp
  refine lv_aload_n hx hb dX7_digestOf_0 rfl (lv_at hl 0 rfl) ?_
  refine g_main S hK h (by decide) 0 0 (by decide) rfl rfl q_173 dX7_digestOf_1 ?_
  refine lv_iload_n hx hb dX7_digestOf_4 rfl (lv_at hl 1 rfl) ?_
  refine q_V1 (ci := 5) S hI hK h [.int (nI i)] (c_X5_digestAt l L σ (by decide) hi) (by decide) rfl (by decide) q_196 q_197 q_198 q_2 q_199 yd_X5_digestAt rfl ⟨⟨rfl, rfl⟩, ⟨(Nat.le_of_ble_eq_true rfl), (Nat.le_of_ble_eq_true rfl)⟩, Nat.le_refl _, Nat.le_refl _⟩ rfl (Nat.le_of_ble_eq_true rfl) hl.1 dX7_digestOf_5 (fun H locs h => ?_)
  refine lv_astore_n (lv' := [(3, .ref (ad L (3 + 14 * i))), (0, .ref (ad L 244)), (1, .int (nI i)), (2, .int w)]) hx hb dX7_digestOf_8 rfl hl (by decide) rfl (fun ls hl => ?_)
  refine lv_aload_n hx hb dX7_digestOf_9 rfl (lv_at hl 0 rfl) ?_
  refine lv_ifnull hx hb dX7_digestOf_10 ?_
  refine lv_iload_n hx hb dX7_digestOf_13 rfl (lv_at hl 3 rfl) ?_
  refine lv_iconst (v := (nI 0)) hx hb dX7_digestOf_14 (by decide) ?_
  refine lv_bipush (v := (nI 8)) hx hb dX7_digestOf_15 (by decide) ?_
  refine q_S1 S hI hK h [.int w, .int (nI 0), .int (nI 8)] (c_X7_isWithin l L σ w (nI 0) (nI 8)) q_200 q_201 q_1 q_202 yd_X7_isWithin rfl ⟨⟨rfl, rfl⟩, ⟨(Nat.le_of_ble_eq_true rfl), (Nat.le_of_ble_eq_true rfl)⟩, Nat.le_refl _, Nat.le_refl _⟩ rfl (Nat.le_of_ble_eq_true rfl) hl.1 dX7_digestOf_17 (fun H locs h => ?_)
  refine z_ne (tgt := 26) hx hb dX7_digestOf_20 (by decide) (fun c_20 => ?_) (fun c_20 => ?_)
  · rw [if_neg (fun q => q c_20)] at hp
    obtain ⟨n, -, hn2, rfl⟩ := rng_nat (a := 0) (b := 8) (by omega) (by omega) c_20
    rw [nI_clamp (show n < 2 ^ 31 by omega)] at hp
    refine lv_iload_n hx hb dX7_digestOf_26 rfl (lv_at hl 3 rfl) ?_
    rcases (show n = 0 ∨ n = 1 ∨ n = 2 ∨ n = 3 ∨ n = 4 ∨ n = 5 ∨ n = 6 ∨ n = 7 ∨ n = 8 by omega) with rfl | rfl | rfl | rfl | rfl | rfl | rfl | rfl | rfl
    · refine lv_tableIn (tgt := 72) hx hb dX7_digestOf_27 (by decide) (by decide) rfl (by decide) ?_
      refine lv_aload_n hx hb dX7_digestOf_72 rfl (lv_at hl 0 rfl) ?_
      refine q_V1 (ci := 0) S hI hK h [] (c_X0_weight l L σ (kd314 hi) hD) (kd314 hi) rfl (by decide) q_204 q_205 q_206 q_5 q_207 yd_X0_weight rfl ⟨⟨rfl, rfl⟩, ⟨(Nat.le_of_ble_eq_true rfl), (Nat.le_of_ble_eq_true rfl)⟩, Nat.le_refl _, Nat.le_refl _⟩ rfl (Nat.le_of_ble_eq_true rfl) hl.1 dX7_digestOf_73 (fun H locs h => ?_)
      refine cv_i (show (dW ((X.2.2 i).1) ((X.2.2 i).2.1) : Int32) = nI ((X.2.2 i).2.2.1.length) from ld) ?_
      exact e_i S hK h hr hlk dX7_digestOf_76 (hp _ _ ⟨rfl, hc⟩)
    · refine lv_tableIn (tgt := 77) hx hb dX7_digestOf_27 (by decide) (by decide) rfl (by decide) ?_
      refine lv_aload_n hx hb dX7_digestOf_77 rfl (lv_at hl 0 rfl) ?_
      refine g_heaps S hK h (kd314 hi) q_80 dX7_digestOf_78 ?_
      refine q_V1 (ci := 1) S hI hK h [] (c_X1_size l L σ (kd0_heaps (kd314 hi)) hD.1) (kd0_heaps (kd314 hi)) rfl (by decide) q_340 q_286 q_287 q_6 q_288 yd_X1_size rfl ⟨⟨rfl, rfl⟩, ⟨(Nat.le_of_ble_eq_true rfl), (Nat.le_of_ble_eq_true rfl)⟩, Nat.le_refl _, Nat.le_refl _⟩ rfl (Nat.le_of_ble_eq_true rfl) hl.1 dX7_digestOf_81 (fun H locs h => ?_)
      exact e_i S hK h hr hlk dX7_digestOf_84 (hp _ _ ⟨rfl, hc⟩)
    · refine lv_tableIn (tgt := 85) hx hb dX7_digestOf_27 (by decide) (by decide) rfl (by decide) ?_
      refine lv_aload_n hx hb dX7_digestOf_85 rfl (lv_at hl 0 rfl) ?_
      refine g_buffer S hK h (kd314 hi) q_83 dX7_digestOf_86 ?_
      refine q_V1 (ci := 4) S hI hK h [] (c_X4_length l L σ (kd0_buf (kd314 hi))) (kd0_buf (kd314 hi)) rfl (by decide) q_383 q_217 q_218 q_3 q_219 yd_X4_length rfl ⟨⟨rfl, rfl⟩, ⟨(Nat.le_of_ble_eq_true rfl), (Nat.le_of_ble_eq_true rfl)⟩, Nat.le_refl _, Nat.le_refl _⟩ rfl (Nat.le_of_ble_eq_true rfl) hl.1 dX7_digestOf_89 (fun H locs h => ?_)
      refine cv_i (show (nI ((σ (3 + 14 * i + 10)).length) : Int32) = nI ((X.2.2 i).2.1.length) from (by rw [hD.2.1])) ?_
      exact e_i S hK h hr hlk dX7_digestOf_92 (hp _ _ ⟨rfl, hc⟩)
    · refine lv_tableIn (tgt := 93) hx hb dX7_digestOf_27 (by decide) (by decide) rfl (by decide) ?_
      refine lv_aload_n hx hb dX7_digestOf_93 rfl (lv_at hl 0 rfl) ?_
      refine q_V1 (ci := 0) S hI hK h [] (c_X0_weight l L σ (kd314 hi) hD) (kd314 hi) rfl (by decide) q_204 q_205 q_206 q_5 q_207 yd_X0_weight rfl ⟨⟨rfl, rfl⟩, ⟨(Nat.le_of_ble_eq_true rfl), (Nat.le_of_ble_eq_true rfl)⟩, Nat.le_refl _, Nat.le_refl _⟩ rfl (Nat.le_of_ble_eq_true rfl) hl.1 dX7_digestOf_94 (fun H locs h => ?_)
      refine cv_i (show (dW ((X.2.2 i).1) ((X.2.2 i).2.1) : Int32) = nI ((X.2.2 i).2.2.1.length) from ld) ?_
      refine b_if_ne (tgt := 105) hx hb dX7_digestOf_97 (by decide) (by omega) (fun c_97 => ?_) (fun c_97 => ?_)
      · rw [dOf, if_neg (Nat.ne_of_gt c_97)] at hp
        refine lv_aload_n hx hb dX7_digestOf_105 rfl (lv_at hl 0 rfl) ?_
        refine q_V1 (ci := 0) S hI hK h [] (c_X0_least l L σ (kd314 hi) hD) (kd314 hi) rfl (by decide) q_450 q_451 q_452 q_5 q_453 yd_X0_least rfl ⟨⟨rfl, rfl⟩, ⟨(Nat.le_of_ble_eq_true rfl), (Nat.le_of_ble_eq_true rfl)⟩, Nat.le_refl _, Nat.le_refl _⟩ rfl (Nat.le_of_ble_eq_true rfl) hl.1 dX7_digestOf_106 (fun H locs h => ?_)
        exact e_i S hK h hr hlk dX7_digestOf_109 (hp _ _ ⟨rfl, hc⟩)
      · rw [dOf, if_pos c_97] at hp
        refine lv_ldc (v := (-1000004 : Int32)) hx hb S.2.2.2.1 (S.2.2.2.2 _ q_416) dX7_digestOf_100 ?_
        refine lv_goto (tgt := 109) hx hb dX7_digestOf_102 (by decide) ?_
        exact e_i S hK h hr hlk dX7_digestOf_109 (hp _ _ ⟨rfl, hc⟩)
    · refine lv_tableIn (tgt := 110) hx hb dX7_digestOf_27 (by decide) (by decide) rfl (by decide) ?_
      refine lv_aload_n hx hb dX7_digestOf_110 rfl (lv_at hl 0 rfl) ?_
      refine q_V1 (ci := 0) S hI hK h [] (c_X0_weight l L σ (kd314 hi) hD) (kd314 hi) rfl (by decide) q_204 q_205 q_206 q_5 q_207 yd_X0_weight rfl ⟨⟨rfl, rfl⟩, ⟨(Nat.le_of_ble_eq_true rfl), (Nat.le_of_ble_eq_true rfl)⟩, Nat.le_refl _, Nat.le_refl _⟩ rfl (Nat.le_of_ble_eq_true rfl) hl.1 dX7_digestOf_111 (fun H locs h => ?_)
      refine cv_i (show (dW ((X.2.2 i).1) ((X.2.2 i).2.1) : Int32) = nI ((X.2.2 i).2.2.1.length) from ld) ?_
      refine b_if_ne (tgt := 122) hx hb dX7_digestOf_114 (by decide) (by omega) (fun c_114 => ?_) (fun c_114 => ?_)
      · rw [dOf, if_neg (Nat.ne_of_gt c_114)] at hp
        refine lv_aload_n hx hb dX7_digestOf_122 rfl (lv_at hl 0 rfl) ?_
        refine q_V1 (ci := 0) S hI hK h [] (c_X0_greatest l L σ (kd314 hi) hD) (kd314 hi) rfl (by decide) q_460 q_461 q_462 q_5 q_463 yd_X0_greatest rfl ⟨⟨rfl, rfl⟩, ⟨(Nat.le_of_ble_eq_true rfl), (Nat.le_of_ble_eq_true rfl)⟩, Nat.le_refl _, Nat.le_refl _⟩ rfl (Nat.le_of_ble_eq_true rfl) hl.1 dX7_digestOf_123 (fun H locs h => ?_)
        exact e_i S hK h hr hlk dX7_digestOf_126 (hp _ _ ⟨rfl, hc⟩)
      · rw [dOf, if_pos c_114] at hp
        refine lv_ldc (v := (-1000004 : Int32)) hx hb S.2.2.2.1 (S.2.2.2.2 _ q_416) dX7_digestOf_117 ?_
        refine lv_goto (tgt := 126) hx hb dX7_digestOf_119 (by decide) ?_
        exact e_i S hK h hr hlk dX7_digestOf_126 (hp _ _ ⟨rfl, hc⟩)
    · refine lv_tableIn (tgt := 127) hx hb dX7_digestOf_27 (by decide) (by decide) rfl (by decide) ?_
      refine lv_aload_n hx hb dX7_digestOf_127 rfl (lv_at hl 0 rfl) ?_
      refine q_V1 (ci := 0) S hI hK h [] (c_X0_sum l L σ (kd314 hi) hD) (kd314 hi) rfl (by decide) q_470 q_471 q_472 q_5 q_473 yd_X0_sum rfl ⟨⟨rfl, rfl⟩, ⟨(Nat.le_of_ble_eq_true rfl), (Nat.le_of_ble_eq_true rfl)⟩, Nat.le_refl _, Nat.le_refl _⟩ rfl (Nat.le_of_ble_eq_true rfl) hl.1 dX7_digestOf_128 (fun H locs h => ?_)
      exact e_i S hK h hr hlk dX7_digestOf_131 (hp _ _ ⟨rfl, hc⟩)
    · refine lv_tableIn (tgt := 132) hx hb dX7_digestOf_27 (by decide) (by decide) rfl (by decide) ?_
      refine lv_aload_n hx hb dX7_digestOf_132 rfl (lv_at hl 1 rfl) ?_
      refine lv_aload_n hx hb dX7_digestOf_133 rfl (lv_at hl 0 rfl) ?_
      refine q_V0 (ci := 7) S hI hK h [.ref (ad L (3 + 14 * i))] (c_X7_packOnTrial l L σ hi hst hD (by omega)) (by decide) rfl (by decide) q_474 q_476 qs_8 q_1 q_477 yd_X7_packOnTrial rfl ⟨⟨rfl, rfl⟩, ⟨(Nat.le_of_ble_eq_true rfl), (Nat.le_of_ble_eq_true rfl)⟩, Nat.le_refl _, Nat.le_refl _⟩ rfl (Nat.le_of_ble_eq_true rfl) hl.1 dX7_digestOf_134 (fun H locs h => ?_)
      refine lv_aload_n hx hb dX7_digestOf_137 rfl (lv_at hl 1 rfl) ?_
      refine g_main S hK h (by decide) 5 235 (by decide) rfl rfl q_178 dX7_digestOf_138 ?_
      refine q_V1 (ci := 1) S hI hK h [] (c_X1_size l L (hset σ 235 (trL X i)) (by decide) HV.hset) (by decide) rfl (by decide) q_340 q_286 q_287 q_6 q_288 yd_X1_size rfl ⟨⟨rfl, rfl⟩, ⟨(Nat.le_of_ble_eq_true rfl), (Nat.le_of_ble_eq_true rfl)⟩, Nat.le_refl _, Nat.le_refl _⟩ rfl (Nat.le_of_ble_eq_true rfl) hl.1 dX7_digestOf_141 (fun H locs h => ?_)
      exact e_i S hK h hr hlk dX7_digestOf_144 (hp _ _ ⟨rfl, CR_hset hc (by omega)⟩)
    · refine lv_tableIn (tgt := 145) hx hb dX7_digestOf_27 (by decide) (by decide) rfl (by decide) ?_
      refine lv_aload_n hx hb dX7_digestOf_145 rfl (lv_at hl 0 rfl) ?_
      refine g_heaps S hK h (kd314 hi) q_80 dX7_digestOf_146 ?_
      refine q_V1 (ci := 1) S hI hK h [] (c_X1_size l L σ (kd0_heaps (kd314 hi)) hD.1) (kd0_heaps (kd314 hi)) rfl (by decide) q_340 q_286 q_287 q_6 q_288 yd_X1_size rfl ⟨⟨rfl, rfl⟩, ⟨(Nat.le_of_ble_eq_true rfl), (Nat.le_of_ble_eq_true rfl)⟩, Nat.le_refl _, Nat.le_refl _⟩ rfl (Nat.le_of_ble_eq_true rfl) hl.1 dX7_digestOf_149 (fun H locs h => ?_)
      refine b_if_ne (tgt := 160) hx hb dX7_digestOf_152 (by decide) (by omega) (fun c_152 => ?_) (fun c_152 => ?_)
      · rw [dOf, if_neg (Nat.ne_of_gt c_152)] at hp
        refine lv_aload_n hx hb dX7_digestOf_160 rfl (lv_at hl 0 rfl) ?_
        refine g_heaps S hK h (kd314 hi) q_80 dX7_digestOf_161 ?_
        refine g_weights S hK h (kd0_heaps (kd314 hi)) q_58 dX7_digestOf_164 ?_
        refine q_V1 (ci := 4) S hI hK h [] (c_X4_greatest l L σ (kd1_1 (kd0_heaps (kd314 hi)))) (kd1_1 (kd0_heaps (kd314 hi))) rfl (by decide) q_481 q_465 q_466 q_3 q_467 yd_X4_greatest rfl ⟨⟨rfl, rfl⟩, ⟨(Nat.le_of_ble_eq_true rfl), (Nat.le_of_ble_eq_true rfl)⟩, Nat.le_refl _, Nat.le_refl _⟩ rfl (Nat.le_of_ble_eq_true rfl) hl.1 dX7_digestOf_167 (fun H locs h => ?_)
        exact e_i S hK h hr hlk dX7_digestOf_170 (hp _ _ ⟨by first | (rw [hD.1.1, List.length_map]) | rfl, hc⟩)
      · rw [dOf, if_pos c_152] at hp
        refine lv_ldc (v := (-1000004 : Int32)) hx hb S.2.2.2.1 (S.2.2.2.2 _ q_416) dX7_digestOf_155 ?_
        refine lv_goto (tgt := 170) hx hb dX7_digestOf_157 (by decide) ?_
        exact e_i S hK h hr hlk dX7_digestOf_170 (hp _ _ ⟨by first | (rw [hD.1.1, List.length_map]) | rfl, hc⟩)
    · refine lv_tableOut (tgt := 171) hx hb dX7_digestOf_27 (Or.inr (by decide)) (by decide) ?_
      refine lv_aload_n hx hb dX7_digestOf_171 rfl (lv_at hl 0 rfl) ?_
      refine g_packings S hK h (kd314 hi) q_86 dX7_digestOf_172 ?_
      refine cv_i (show ((σ (3 + 14 * i)).getD 0 0 : Int32) = (X.2.2 i).2.2.2 from (by rw [hD.2.2.2]; rfl)) ?_
      exact e_i S hK h hr hlk dX7_digestOf_175 (hp _ _ ⟨rfl, hc⟩)
  · rw [if_pos c_20] at hp
    refine lv_ldc (v := (-1000001 : Int32)) hx hb S.2.2.2.1 (S.2.2.2.2 _ q_203) dX7_digestOf_23 ?_
    exact e_i S hK h hr hlk dX7_digestOf_25 (hp _ _ ⟨rfl, hc⟩)

abbrev rX7_quantile : Room := { frames := 5, cells := 0, slots := 0, locals := 123 }
set_option maxHeartbeats 4000000 in
set_option maxRecDepth 100000 in
theorem c_X7_quantile (l : Launch) (L : Lay) (σ : St) {X : SS} {hh : List SS} {t : List Int32} (hc : CR σ X hh t) (hX : XI X) {i : Nat} (hi : i < 3) (q : Int32) : Mg l L yX7_quantile (Cond.code yX7_quantile cX7_quantile 4 (some FieldType.int) :: qA) rX7_quantile [.ref (ad L 244), .int (nI i), .int q] σ (fun r u => r = some (.int (cQua X i q)) ∧ CR u X hh t) := by
  refine Mr_ofW (by decide) (Nat.le_of_ble_eq_true rfl) ?_
  intro p e s m args below meth c ls post hp hI S hr hlk hK h hl
  have hx := S.1
  have hb := S.2.1
  have hok := h.ok
  have hl : lv_has ls 4 [(0, .ref (ad L 244)), (1, .int (nI i)), (2, .int q)] := hl
  have hst : σ 1 = [X.1, X.2.1] := hc.1.1
  have hok0 := hok
  have hD := CR_D hc hi
  obtain ⟨la, lb, lc, ld⟩ := hX.1 i hi
  unfold cQua at hp
  refine lv_aload_n hx hb dX7_quantile_0 rfl (lv_at hl 0 rfl) ?_
  refine g_main S hK h (by decide) 0 0 (by decide) rfl rfl q_173 dX7_quantile_1 ?_
  refine lv_iload_n hx hb dX7_quantile_4 rfl (lv_at hl 1 rfl) ?_
  refine q_V1 (ci := 5) S hI hK h [.int (nI i)] (c_X5_digestAt l L σ (by decide) hi) (by decide) rfl (by decide) q_196 q_197 q_198 q_2 q_199 yd_X5_digestAt rfl ⟨⟨rfl, rfl⟩, ⟨(Nat.le_of_ble_eq_true rfl), (Nat.le_of_ble_eq_true rfl)⟩, Nat.le_refl _, Nat.le_refl _⟩ rfl (Nat.le_of_ble_eq_true rfl) hl.1 dX7_quantile_5 (fun H locs h => ?_)
  refine lv_astore_n (lv' := [(3, .ref (ad L (3 + 14 * i))), (0, .ref (ad L 244)), (1, .int (nI i)), (2, .int q)]) hx hb dX7_quantile_8 rfl hl (by decide) rfl (fun ls hl => ?_)
  refine lv_aload_n hx hb dX7_quantile_9 rfl (lv_at hl 0 rfl) ?_
  refine lv_ifnull hx hb dX7_quantile_10 ?_
  refine lv_iload_n hx hb dX7_quantile_13 rfl (lv_at hl 3 rfl) ?_
  refine lv_iconst (v := (nI 0)) hx hb dX7_quantile_14 (by decide) ?_
  refine lv_sipush (v := (nI 1000)) hx hb dX7_quantile_15 (by decide) ?_
  refine q_S1 S hI hK h [.int q, .int (nI 0), .int (nI 1000)] (c_X7_isWithin l L σ q (nI 0) (nI 1000)) q_200 q_201 q_1 q_202 yd_X7_isWithin rfl ⟨⟨rfl, rfl⟩, ⟨(Nat.le_of_ble_eq_true rfl), (Nat.le_of_ble_eq_true rfl)⟩, Nat.le_refl _, Nat.le_refl _⟩ rfl (Nat.le_of_ble_eq_true rfl) hl.1 dX7_quantile_18 (fun H locs h => ?_)
  refine z_ne (tgt := 27) hx hb dX7_quantile_21 (by decide) (fun c_21 => ?_) (fun c_21 => ?_)
  · rw [if_neg (fun q => q c_21)] at hp
    refine lv_aload_n hx hb dX7_quantile_27 rfl (lv_at hl 0 rfl) ?_
    refine q_V1 (ci := 0) S hI hK h [] (c_X0_weight l L σ (kd314 hi) hD) (kd314 hi) rfl (by decide) q_204 q_205 q_206 q_5 q_207 yd_X0_weight rfl ⟨⟨rfl, rfl⟩, ⟨(Nat.le_of_ble_eq_true rfl), (Nat.le_of_ble_eq_true rfl)⟩, Nat.le_refl _, Nat.le_refl _⟩ rfl (Nat.le_of_ble_eq_true rfl) hl.1 dX7_quantile_28 (fun H locs h => ?_)
    refine cv_i (show (dW ((X.2.2 i).1) ((X.2.2 i).2.1) : Int32) = nI ((X.2.2 i).2.2.1.length) from ld) ?_
    refine b_if_ne (tgt := 37) hx hb dX7_quantile_31 (by decide) (by omega) (fun c_31 => ?_) (fun c_31 => ?_)
    · rw [if_neg (Nat.ne_of_gt c_31)] at hp
      refine lv_aload_n hx hb dX7_quantile_37 rfl (lv_at hl 1 rfl) ?_
      refine lv_aload_n hx hb dX7_quantile_38 rfl (lv_at hl 0 rfl) ?_
      refine q_V0 (ci := 7) S hI hK h [.ref (ad L (3 + 14 * i))] (c_X7_packOnTrial l L σ hi hst hD (by omega)) (by decide) rfl (by decide) q_474 q_476 qs_8 q_1 q_477 yd_X7_packOnTrial rfl ⟨⟨rfl, rfl⟩, ⟨(Nat.le_of_ble_eq_true rfl), (Nat.le_of_ble_eq_true rfl)⟩, Nat.le_refl _, Nat.le_refl _⟩ rfl (Nat.le_of_ble_eq_true rfl) hl.1 dX7_quantile_39 (fun H locs h => ?_)
      refine lv_aload_n hx hb dX7_quantile_42 rfl (lv_at hl 1 rfl) ?_
      refine g_main S hK h (by decide) 5 235 (by decide) rfl rfl q_178 dX7_quantile_43 ?_
      refine lv_iload_n hx hb dX7_quantile_46 rfl (lv_at hl 3 rfl) ?_
      refine q_V1 (ci := 1) S hI hK h [.int q] (c_X1_quantileAt l L (hset σ 235 (trL X i)) (by decide) HV.hset  q) (by decide) rfl (by decide) q_487 q_488 q_489 q_6 q_490 yd_X1_quantileAt rfl ⟨⟨rfl, rfl⟩, ⟨(Nat.le_of_ble_eq_true rfl), (Nat.le_of_ble_eq_true rfl)⟩, Nat.le_refl _, Nat.le_refl _⟩ rfl (Nat.le_of_ble_eq_true rfl) hl.1 dX7_quantile_47 (fun H locs h => ?_)
      exact e_i S hK h hr hlk dX7_quantile_50 (hp _ _ ⟨rfl, CR_hset hc (by omega)⟩)
    · rw [if_pos c_31] at hp
      refine lv_ldc (v := (-1000002 : Int32)) hx hb S.2.2.2.1 (S.2.2.2.2 _ q_486) dX7_quantile_34 ?_
      exact e_i S hK h hr hlk dX7_quantile_36 (hp _ _ ⟨rfl, hc⟩)
  · rw [if_pos c_21] at hp
    refine lv_ldc (v := (-1000001 : Int32)) hx hb S.2.2.2.1 (S.2.2.2.2 _ q_203) dX7_quantile_24 ?_
    exact e_i S hK h hr hlk dX7_quantile_26 (hp _ _ ⟨rfl, hc⟩)

abbrev rX7_truth : Room := { frames := 3, cells := 0, slots := 0, locals := 63 }
set_option maxHeartbeats 4000000 in
set_option maxRecDepth 100000 in
theorem c_X7_truth (l : Launch) (L : Lay) (σ : St) {X : SS} {hh : List SS} {t : List Int32} (hc : CR σ X hh t) (hX : XI X) {i : Nat} (hi : i < 3) (q : Int32) : Mg l L yX7_truth (Cond.code yX7_truth cX7_truth 4 (some FieldType.int) :: qA) rX7_truth [.ref (ad L 244), .int (nI i), .int q] σ (fun r u => r = some (.int (cTru X i q)) ∧ CR u X hh t) := by
  refine Mr_ofW (by decide) (Nat.le_of_ble_eq_true rfl) ?_
  intro p e s m args below meth c ls post hp hI S hr hlk hK h hl
  have hx := S.1
  have hb := S.2.1
  have hok := h.ok
  have hl : lv_has ls 4 [(0, .ref (ad L 244)), (1, .int (nI i)), (2, .int q)] := hl
  have hst : σ 1 = [X.1, X.2.1] := hc.1.1
  have hok0 := hok
  have hD := CR_D hc hi
  obtain ⟨la, lb, lc, ld⟩ := hX.1 i hi
  unfold cTru at hp
  refine lv_aload_n hx hb dX7_truth_0 rfl (lv_at hl 0 rfl) ?_
  refine g_main S hK h (by decide) 0 0 (by decide) rfl rfl q_173 dX7_truth_1 ?_
  refine lv_iload_n hx hb dX7_truth_4 rfl (lv_at hl 1 rfl) ?_
  refine q_V1 (ci := 5) S hI hK h [.int (nI i)] (c_X5_digestAt l L σ (by decide) hi) (by decide) rfl (by decide) q_196 q_197 q_198 q_2 q_199 yd_X5_digestAt rfl ⟨⟨rfl, rfl⟩, ⟨(Nat.le_of_ble_eq_true rfl), (Nat.le_of_ble_eq_true rfl)⟩, Nat.le_refl _, Nat.le_refl _⟩ rfl (Nat.le_of_ble_eq_true rfl) hl.1 dX7_truth_5 (fun H locs h => ?_)
  refine lv_astore_n (lv' := [(3, .ref (ad L (3 + 14 * i))), (0, .ref (ad L 244)), (1, .int (nI i)), (2, .int q)]) hx hb dX7_truth_8 rfl hl (by decide) rfl (fun ls hl => ?_)
  refine lv_aload_n hx hb dX7_truth_9 rfl (lv_at hl 0 rfl) ?_
  refine lv_ifnull hx hb dX7_truth_10 ?_
  refine lv_iload_n hx hb dX7_truth_13 rfl (lv_at hl 3 rfl) ?_
  refine lv_iconst (v := (nI 0)) hx hb dX7_truth_14 (by decide) ?_
  refine lv_sipush (v := (nI 1000)) hx hb dX7_truth_15 (by decide) ?_
  refine q_S1 S hI hK h [.int q, .int (nI 0), .int (nI 1000)] (c_X7_isWithin l L σ q (nI 0) (nI 1000)) q_200 q_201 q_1 q_202 yd_X7_isWithin rfl ⟨⟨rfl, rfl⟩, ⟨(Nat.le_of_ble_eq_true rfl), (Nat.le_of_ble_eq_true rfl)⟩, Nat.le_refl _, Nat.le_refl _⟩ rfl (Nat.le_of_ble_eq_true rfl) hl.1 dX7_truth_18 (fun H locs h => ?_)
  refine z_ne (tgt := 27) hx hb dX7_truth_21 (by decide) (fun c_21 => ?_) (fun c_21 => ?_)
  · rw [if_neg (fun q => q c_21)] at hp
    obtain ⟨n, -, hn2, rfl⟩ := rng_nat (a := 0) (b := 1000) (by omega) (by omega) c_21
    try rw [nI_clamp (show n < 2 ^ 31 by omega)] at hp
    refine lv_aload_n hx hb dX7_truth_27 rfl (lv_at hl 0 rfl) ?_
    refine q_V1 (ci := 0) S hI hK h [] (c_X0_weight l L σ (kd314 hi) hD) (kd314 hi) rfl (by decide) q_204 q_205 q_206 q_5 q_207 yd_X0_weight rfl ⟨⟨rfl, rfl⟩, ⟨(Nat.le_of_ble_eq_true rfl), (Nat.le_of_ble_eq_true rfl)⟩, Nat.le_refl _, Nat.le_refl _⟩ rfl (Nat.le_of_ble_eq_true rfl) hl.1 dX7_truth_28 (fun H locs h => ?_)
    refine cv_i (show (dW ((X.2.2 i).1) ((X.2.2 i).2.1) : Int32) = nI ((X.2.2 i).2.2.1.length) from ld) ?_
    refine b_if_ne (tgt := 39) hx hb dX7_truth_31 (by decide) (by omega) (fun c_31 => ?_) (fun c_31 => ?_)
    · rw [if_neg (Nat.ne_of_gt c_31)] at hp
      refine lv_aload_n hx hb dX7_truth_39 rfl (lv_at hl 0 rfl) ?_
      refine lv_iload_n hx hb dX7_truth_40 rfl (lv_at hl 3 rfl) ?_
      refine q_V1 (ci := 0) S hI hK h [.int (nI n)] (c_X0_trueQuantileAt l L σ (kd314 hi) hD hn2 (by omega)) (kd314 hi) rfl (by decide) q_504 q_505 q_506 q_5 q_507 yd_X0_trueQuantileAt rfl ⟨⟨rfl, rfl⟩, ⟨(Nat.le_of_ble_eq_true rfl), (Nat.le_of_ble_eq_true rfl)⟩, Nat.le_refl _, Nat.le_refl _⟩ rfl (Nat.le_of_ble_eq_true rfl) hl.1 dX7_truth_41 (fun H locs h => ?_)
      exact e_i S hK h hr hlk dX7_truth_44 (hp _ _ ⟨rfl, hc⟩)
    · rw [if_pos c_31] at hp
      refine lv_ldc (v := (-1000002 : Int32)) hx hb S.2.2.2.1 (S.2.2.2.2 _ q_486) dX7_truth_34 ?_
      refine lv_goto (tgt := 44) hx hb dX7_truth_36 (by decide) ?_
      exact e_i S hK h hr hlk dX7_truth_44 (hp _ _ ⟨rfl, hc⟩)
  · rw [if_pos c_21] at hp
    refine lv_ldc (v := (-1000001 : Int32)) hx hb S.2.2.2.1 (S.2.2.2.2 _ q_203) dX7_truth_24 ?_
    exact e_i S hK h hr hlk dX7_truth_26 (hp _ _ ⟨rfl, hc⟩)

abbrev rX7_rank : Room := { frames := 5, cells := 0, slots := 0, locals := 123 }
set_option maxHeartbeats 4000000 in
set_option maxRecDepth 100000 in
theorem c_X7_rank (l : Launch) (L : Lay) (σ : St) {X : SS} {hh : List SS} {t : List Int32} (hc : CR σ X hh t) (hX : XI X) {i : Nat} (hi : i < 3) (v : Int32) : Mg l L yX7_rank (Cond.code yX7_rank cX7_rank 4 (some FieldType.int) :: qA) rX7_rank [.ref (ad L 244), .int (nI i), .int v] σ (fun r u => r = some (.int (cRan X i v)) ∧ CR u X hh t) := by
  refine Mr_ofW (by decide) (Nat.le_of_ble_eq_true rfl) ?_
  intro p e s m args below meth c ls post hp hI S hr hlk hK h hl
  have hx := S.1
  have hb := S.2.1
  have hok := h.ok
  have hl : lv_has ls 4 [(0, .ref (ad L 244)), (1, .int (nI i)), (2, .int v)] := hl
  have hst : σ 1 = [X.1, X.2.1] := hc.1.1
  have hok0 := hok
  have hD := CR_D hc hi
  obtain ⟨la, lb, lc, ld⟩ := hX.1 i hi
  unfold cRan at hp
  refine lv_aload_n hx hb dX7_rank_0 rfl (lv_at hl 0 rfl) ?_
  refine g_main S hK h (by decide) 0 0 (by decide) rfl rfl q_173 dX7_rank_1 ?_
  refine lv_iload_n hx hb dX7_rank_4 rfl (lv_at hl 1 rfl) ?_
  refine q_V1 (ci := 5) S hI hK h [.int (nI i)] (c_X5_digestAt l L σ (by decide) hi) (by decide) rfl (by decide) q_196 q_197 q_198 q_2 q_199 yd_X5_digestAt rfl ⟨⟨rfl, rfl⟩, ⟨(Nat.le_of_ble_eq_true rfl), (Nat.le_of_ble_eq_true rfl)⟩, Nat.le_refl _, Nat.le_refl _⟩ rfl (Nat.le_of_ble_eq_true rfl) hl.1 dX7_rank_5 (fun H locs h => ?_)
  refine lv_astore_n (lv' := [(3, .ref (ad L (3 + 14 * i))), (0, .ref (ad L 244)), (1, .int (nI i)), (2, .int v)]) hx hb dX7_rank_8 rfl hl (by decide) rfl (fun ls hl => ?_)
  refine lv_aload_n hx hb dX7_rank_9 rfl (lv_at hl 0 rfl) ?_
  refine lv_ifnull hx hb dX7_rank_10 ?_
  refine lv_iload_n hx hb dX7_rank_13 rfl (lv_at hl 3 rfl) ?_
  refine lv_iconst (v := (nI 0)) hx hb dX7_rank_14 (by decide) ?_
  refine lv_sipush (v := (nI 9999)) hx hb dX7_rank_15 (by decide) ?_
  refine q_S1 S hI hK h [.int v, .int (nI 0), .int (nI 9999)] (c_X7_isWithin l L σ v (nI 0) (nI 9999)) q_200 q_201 q_1 q_202 yd_X7_isWithin rfl ⟨⟨rfl, rfl⟩, ⟨(Nat.le_of_ble_eq_true rfl), (Nat.le_of_ble_eq_true rfl)⟩, Nat.le_refl _, Nat.le_refl _⟩ rfl (Nat.le_of_ble_eq_true rfl) hl.1 dX7_rank_18 (fun H locs h => ?_)
  refine z_ne (tgt := 27) hx hb dX7_rank_21 (by decide) (fun c_21 => ?_) (fun c_21 => ?_)
  · rw [if_neg (fun q => q c_21)] at hp
    refine lv_aload_n hx hb dX7_rank_27 rfl (lv_at hl 0 rfl) ?_
    refine q_V1 (ci := 0) S hI hK h [] (c_X0_weight l L σ (kd314 hi) hD) (kd314 hi) rfl (by decide) q_204 q_205 q_206 q_5 q_207 yd_X0_weight rfl ⟨⟨rfl, rfl⟩, ⟨(Nat.le_of_ble_eq_true rfl), (Nat.le_of_ble_eq_true rfl)⟩, Nat.le_refl _, Nat.le_refl _⟩ rfl (Nat.le_of_ble_eq_true rfl) hl.1 dX7_rank_28 (fun H locs h => ?_)
    refine cv_i (show (dW ((X.2.2 i).1) ((X.2.2 i).2.1) : Int32) = nI ((X.2.2 i).2.2.1.length) from ld) ?_
    refine b_if_ne (tgt := 37) hx hb dX7_rank_31 (by decide) (by omega) (fun c_31 => ?_) (fun c_31 => ?_)
    · rw [if_neg (Nat.ne_of_gt c_31)] at hp
      refine lv_aload_n hx hb dX7_rank_37 rfl (lv_at hl 1 rfl) ?_
      refine lv_aload_n hx hb dX7_rank_38 rfl (lv_at hl 0 rfl) ?_
      refine q_V0 (ci := 7) S hI hK h [.ref (ad L (3 + 14 * i))] (c_X7_packOnTrial l L σ hi hst hD (by omega)) (by decide) rfl (by decide) q_474 q_476 qs_8 q_1 q_477 yd_X7_packOnTrial rfl ⟨⟨rfl, rfl⟩, ⟨(Nat.le_of_ble_eq_true rfl), (Nat.le_of_ble_eq_true rfl)⟩, Nat.le_refl _, Nat.le_refl _⟩ rfl (Nat.le_of_ble_eq_true rfl) hl.1 dX7_rank_39 (fun H locs h => ?_)
      refine lv_aload_n hx hb dX7_rank_42 rfl (lv_at hl 1 rfl) ?_
      refine g_main S hK h (by decide) 5 235 (by decide) rfl rfl q_178 dX7_rank_43 ?_
      refine lv_iload_n hx hb dX7_rank_46 rfl (lv_at hl 3 rfl) ?_
      refine q_V1 (ci := 1) S hI hK h [.int v] (c_X1_greatestQAtMost l L (hset σ 235 (trL X i)) (by decide) HV.hset  v) (by decide) rfl (by decide) q_530 q_531 q_532 q_6 q_533 yd_X1_greatestQAtMost rfl ⟨⟨rfl, rfl⟩, ⟨(Nat.le_of_ble_eq_true rfl), (Nat.le_of_ble_eq_true rfl)⟩, Nat.le_refl _, Nat.le_refl _⟩ rfl (Nat.le_of_ble_eq_true rfl) hl.1 dX7_rank_47 (fun H locs h => ?_)
      exact e_i S hK h hr hlk dX7_rank_50 (hp _ _ ⟨rfl, CR_hset hc (by omega)⟩)
    · rw [if_pos c_31] at hp
      refine lv_ldc (v := (-1000002 : Int32)) hx hb S.2.2.2.1 (S.2.2.2.2 _ q_486) dX7_rank_34 ?_
      exact e_i S hK h hr hlk dX7_rank_36 (hp _ _ ⟨rfl, hc⟩)
  · rw [if_pos c_21] at hp
    refine lv_ldc (v := (-1000001 : Int32)) hx hb S.2.2.2.1 (S.2.2.2.2 _ q_203) dX7_rank_24 ?_
    exact e_i S hK h hr hlk dX7_rank_26 (hp _ _ ⟨rfl, hc⟩)

abbrev rX7_width : Room := { frames := 5, cells := 0, slots := 0, locals := 123 }
set_option maxHeartbeats 4000000 in
set_option maxRecDepth 100000 in
theorem c_X7_width (l : Launch) (L : Lay) (σ : St) {X : SS} {hh : List SS} {t : List Int32} (hc : CR σ X hh t) (hX : XI X) {i : Nat} (hi : i < 3) (q : Int32) : Mg l L yX7_width (Cond.code yX7_width cX7_width 4 (some FieldType.int) :: qA) rX7_width [.ref (ad L 244), .int (nI i), .int q] σ (fun r u => r = some (.int (cWid X i q)) ∧ CR u X hh t) := by
  refine Mr_ofW (by decide) (Nat.le_of_ble_eq_true rfl) ?_
  intro p e s m args below meth c ls post hp hI S hr hlk hK h hl
  have hx := S.1
  have hb := S.2.1
  have hok := h.ok
  have hl : lv_has ls 4 [(0, .ref (ad L 244)), (1, .int (nI i)), (2, .int q)] := hl
  have hst : σ 1 = [X.1, X.2.1] := hc.1.1
  have hok0 := hok
  have hD := CR_D hc hi
  obtain ⟨la, lb, lc, ld⟩ := hX.1 i hi
  unfold cWid at hp
  refine lv_aload_n hx hb dX7_width_0 rfl (lv_at hl 0 rfl) ?_
  refine g_main S hK h (by decide) 0 0 (by decide) rfl rfl q_173 dX7_width_1 ?_
  refine lv_iload_n hx hb dX7_width_4 rfl (lv_at hl 1 rfl) ?_
  refine q_V1 (ci := 5) S hI hK h [.int (nI i)] (c_X5_digestAt l L σ (by decide) hi) (by decide) rfl (by decide) q_196 q_197 q_198 q_2 q_199 yd_X5_digestAt rfl ⟨⟨rfl, rfl⟩, ⟨(Nat.le_of_ble_eq_true rfl), (Nat.le_of_ble_eq_true rfl)⟩, Nat.le_refl _, Nat.le_refl _⟩ rfl (Nat.le_of_ble_eq_true rfl) hl.1 dX7_width_5 (fun H locs h => ?_)
  refine lv_astore_n (lv' := [(3, .ref (ad L (3 + 14 * i))), (0, .ref (ad L 244)), (1, .int (nI i)), (2, .int q)]) hx hb dX7_width_8 rfl hl (by decide) rfl (fun ls hl => ?_)
  refine lv_aload_n hx hb dX7_width_9 rfl (lv_at hl 0 rfl) ?_
  refine lv_ifnull hx hb dX7_width_10 ?_
  refine lv_iload_n hx hb dX7_width_13 rfl (lv_at hl 3 rfl) ?_
  refine lv_iconst (v := (nI 0)) hx hb dX7_width_14 (by decide) ?_
  refine lv_sipush (v := (nI 1000)) hx hb dX7_width_15 (by decide) ?_
  refine q_S1 S hI hK h [.int q, .int (nI 0), .int (nI 1000)] (c_X7_isWithin l L σ q (nI 0) (nI 1000)) q_200 q_201 q_1 q_202 yd_X7_isWithin rfl ⟨⟨rfl, rfl⟩, ⟨(Nat.le_of_ble_eq_true rfl), (Nat.le_of_ble_eq_true rfl)⟩, Nat.le_refl _, Nat.le_refl _⟩ rfl (Nat.le_of_ble_eq_true rfl) hl.1 dX7_width_18 (fun H locs h => ?_)
  refine z_ne (tgt := 27) hx hb dX7_width_21 (by decide) (fun c_21 => ?_) (fun c_21 => ?_)
  · rw [if_neg (fun q => q c_21)] at hp
    obtain ⟨n, -, hn2, rfl⟩ := rng_nat (a := 0) (b := 1000) (by omega) (by omega) c_21
    try rw [nI_clamp (show n < 2 ^ 31 by omega)] at hp
    refine lv_aload_n hx hb dX7_width_27 rfl (lv_at hl 0 rfl) ?_
    refine q_V1 (ci := 0) S hI hK h [] (c_X0_weight l L σ (kd314 hi) hD) (kd314 hi) rfl (by decide) q_204 q_205 q_206 q_5 q_207 yd_X0_weight rfl ⟨⟨rfl, rfl⟩, ⟨(Nat.le_of_ble_eq_true rfl), (Nat.le_of_ble_eq_true rfl)⟩, Nat.le_refl _, Nat.le_refl _⟩ rfl (Nat.le_of_ble_eq_true rfl) hl.1 dX7_width_28 (fun H locs h => ?_)
    refine cv_i (show (dW ((X.2.2 i).1) ((X.2.2 i).2.1) : Int32) = nI ((X.2.2 i).2.2.1.length) from ld) ?_
    refine b_if_ne (tgt := 37) hx hb dX7_width_31 (by decide) (by omega) (fun c_31 => ?_) (fun c_31 => ?_)
    · rw [if_neg (Nat.ne_of_gt c_31)] at hp
      refine lv_aload_n hx hb dX7_width_37 rfl (lv_at hl 1 rfl) ?_
      refine lv_aload_n hx hb dX7_width_38 rfl (lv_at hl 0 rfl) ?_
      refine q_V0 (ci := 7) S hI hK h [.ref (ad L (3 + 14 * i))] (c_X7_packOnTrial l L σ hi hst hD (by omega)) (by decide) rfl (by decide) q_474 q_476 qs_8 q_1 q_477 yd_X7_packOnTrial rfl ⟨⟨rfl, rfl⟩, ⟨(Nat.le_of_ble_eq_true rfl), (Nat.le_of_ble_eq_true rfl)⟩, Nat.le_refl _, Nat.le_refl _⟩ rfl (Nat.le_of_ble_eq_true rfl) hl.1 dX7_width_39 (fun H locs h => ?_)
      have hD2 : DX (hset σ 235 (trL X i)) (3 + 14 * i) (X.2.2 i) := hD.congr (fun j h1 h2 => hset_n (by omega) (by omega) (by omega) (by omega))
      refine lv_aload_n hx hb dX7_width_42 rfl (lv_at hl 1 rfl) ?_
      refine g_main S hK h (by decide) 5 235 (by decide) rfl rfl q_178 dX7_width_43 ?_
      refine lv_iload_n hx hb dX7_width_46 rfl (lv_at hl 3 rfl) ?_
      refine lv_aload_n hx hb dX7_width_47 rfl (lv_at hl 0 rfl) ?_
      refine q_V1 (ci := 0) S hI hK h [] (c_X0_weight l L (hset σ 235 (trL X i)) (kd314 hi) hD2) (kd314 hi) rfl (by decide) q_204 q_205 q_206 q_5 q_207 yd_X0_weight rfl ⟨⟨rfl, rfl⟩, ⟨(Nat.le_of_ble_eq_true rfl), (Nat.le_of_ble_eq_true rfl)⟩, Nat.le_refl _, Nat.le_refl _⟩ rfl (Nat.le_of_ble_eq_true rfl) hl.1 dX7_width_48 (fun H locs h => ?_)
      refine cv_i (show (dW ((X.2.2 i).1) ((X.2.2 i).2.1) : Int32) = nI ((X.2.2 i).2.2.1.length) from ld) ?_
      refine q_S1 S hI hK h [.int (nI n), .int (nI ((X.2.2 i).2.2.1.length))] (c_X7_trueIndex l L (hset σ 235 (trL X i)) n ((X.2.2 i).2.2.1.length) hn2 (by omega) lb) q_539 q_509 q_1 q_510 yd_X7_trueIndex rfl ⟨⟨rfl, rfl⟩, ⟨(Nat.le_of_ble_eq_true rfl), (Nat.le_of_ble_eq_true rfl)⟩, Nat.le_refl _, Nat.le_refl _⟩ rfl (Nat.le_of_ble_eq_true rfl) hl.1 dX7_width_51 (fun H locs h => ?_)
      refine q_V1 (ci := 1) S hI hK h [.int (nI (n * (((X.2.2 i).2.2.1.length) - 1) / 1000))] (c_X1_widthAt l L (hset σ 235 (trL X i)) (by decide) HV.hset  (nI (n * (((X.2.2 i).2.2.1.length) - 1) / 1000))) (by decide) rfl (by decide) q_540 q_541 q_542 q_6 q_543 yd_X1_widthAt rfl ⟨⟨rfl, rfl⟩, ⟨(Nat.le_of_ble_eq_true rfl), (Nat.le_of_ble_eq_true rfl)⟩, Nat.le_refl _, Nat.le_refl _⟩ rfl (Nat.le_of_ble_eq_true rfl) hl.1 dX7_width_54 (fun H locs h => ?_)
      exact e_i S hK h hr hlk dX7_width_57 (hp _ _ ⟨rfl, CR_hset hc (by omega)⟩)
    · rw [if_pos c_31] at hp
      refine lv_ldc (v := (-1000002 : Int32)) hx hb S.2.2.2.1 (S.2.2.2.2 _ q_486) dX7_width_34 ?_
      exact e_i S hK h hr hlk dX7_width_36 (hp _ _ ⟨rfl, hc⟩)
  · rw [if_pos c_21] at hp
    refine lv_ldc (v := (-1000001 : Int32)) hx hb S.2.2.2.1 (S.2.2.2.2 _ q_203) dX7_width_24 ?_
    exact e_i S hK h hr hlk dX7_width_26 (hp _ _ ⟨rfl, hc⟩)

abbrev rX7_worst : Room := { frames := 5, cells := 0, slots := 0, locals := 123 }
set_option maxHeartbeats 4000000 in
set_option maxRecDepth 100000 in
theorem c_X7_worst (l : Launch) (L : Lay) (σ : St) {X : SS} {hh : List SS} {t : List Int32} (hc : CR σ X hh t) (hX : XI X) {i : Nat} (hi : i < 3) (w : Int32) : Mg l L yX7_worst (Cond.code yX7_worst cX7_worst 8 (some FieldType.int) :: qA) rX7_worst [.ref (ad L 244), .int (nI i), .int w] σ (fun r u => r = some (.int (cWor X i w)) ∧ CR u X hh t) := by
  refine Mr_ofW (by decide) (Nat.le_of_ble_eq_true rfl) ?_
  intro p e s m args below meth c ls post hp hI S hr hlk hK h hl
  have hx := S.1
  have hb := S.2.1
  have hok := h.ok
  have hl : lv_has ls 8 [(0, .ref (ad L 244)), (1, .int (nI i)), (2, .int w)] := hl
  have hst : σ 1 = [X.1, X.2.1] := hc.1.1
  have hok0 := hok
  have hD := CR_D hc hi
  obtain ⟨la, lb, lc, ld⟩ := hX.1 i hi
  unfold cWor at hp
  refine lv_aload_n hx hb dX7_worst_0 rfl (lv_at hl 0 rfl) ?_
  refine g_main S hK h (by decide) 0 0 (by decide) rfl rfl q_173 dX7_worst_1 ?_
  refine lv_iload_n hx hb dX7_worst_4 rfl (lv_at hl 1 rfl) ?_
  refine q_V1 (ci := 5) S hI hK h [.int (nI i)] (c_X5_digestAt l L σ (by decide) hi) (by decide) rfl (by decide) q_196 q_197 q_198 q_2 q_199 yd_X5_digestAt rfl ⟨⟨rfl, rfl⟩, ⟨(Nat.le_of_ble_eq_true rfl), (Nat.le_of_ble_eq_true rfl)⟩, Nat.le_refl _, Nat.le_refl _⟩ rfl (Nat.le_of_ble_eq_true rfl) hl.1 dX7_worst_5 (fun H locs h => ?_)
  refine lv_astore_n (lv' := [(3, .ref (ad L (3 + 14 * i))), (0, .ref (ad L 244)), (1, .int (nI i)), (2, .int w)]) hx hb dX7_worst_8 rfl hl (by decide) rfl (fun ls hl => ?_)
  refine lv_aload_n hx hb dX7_worst_9 rfl (lv_at hl 0 rfl) ?_
  refine lv_ifnull hx hb dX7_worst_10 ?_
  refine lv_iload_n hx hb dX7_worst_13 rfl (lv_at hl 3 rfl) ?_
  refine lv_iconst (v := (nI 0)) hx hb dX7_worst_14 (by decide) ?_
  refine lv_iconst (v := (nI 1)) hx hb dX7_worst_15 (by decide) ?_
  refine q_S1 S hI hK h [.int w, .int (nI 0), .int (nI 1)] (c_X7_isWithin l L σ w (nI 0) (nI 1)) q_200 q_201 q_1 q_202 yd_X7_isWithin rfl ⟨⟨rfl, rfl⟩, ⟨(Nat.le_of_ble_eq_true rfl), (Nat.le_of_ble_eq_true rfl)⟩, Nat.le_refl _, Nat.le_refl _⟩ rfl (Nat.le_of_ble_eq_true rfl) hl.1 dX7_worst_16 (fun H locs h => ?_)
  refine z_ne (tgt := 25) hx hb dX7_worst_19 (by decide) (fun c_19 => ?_) (fun c_19 => ?_)
  · rw [if_neg (fun q => q c_19)] at hp
    refine lv_aload_n hx hb dX7_worst_25 rfl (lv_at hl 0 rfl) ?_
    refine q_V1 (ci := 0) S hI hK h [] (c_X0_weight l L σ (kd314 hi) hD) (kd314 hi) rfl (by decide) q_204 q_205 q_206 q_5 q_207 yd_X0_weight rfl ⟨⟨rfl, rfl⟩, ⟨(Nat.le_of_ble_eq_true rfl), (Nat.le_of_ble_eq_true rfl)⟩, Nat.le_refl _, Nat.le_refl _⟩ rfl (Nat.le_of_ble_eq_true rfl) hl.1 dX7_worst_26 (fun H locs h => ?_)
    refine cv_i (show (dW ((X.2.2 i).1) ((X.2.2 i).2.1) : Int32) = nI ((X.2.2 i).2.2.1.length) from ld) ?_
    refine b_if_ne (tgt := 35) hx hb dX7_worst_29 (by decide) (by omega) (fun c_29 => ?_) (fun c_29 => ?_)
    · rw [if_neg (Nat.ne_of_gt c_29)] at hp
      refine lv_aload_n hx hb dX7_worst_35 rfl (lv_at hl 1 rfl) ?_
      refine lv_aload_n hx hb dX7_worst_36 rfl (lv_at hl 0 rfl) ?_
      refine q_V0 (ci := 7) S hI hK h [.ref (ad L (3 + 14 * i))] (c_X7_packOnTrial l L σ hi hst hD (by omega)) (by decide) rfl (by decide) q_474 q_476 qs_8 q_1 q_477 yd_X7_packOnTrial rfl ⟨⟨rfl, rfl⟩, ⟨(Nat.le_of_ble_eq_true rfl), (Nat.le_of_ble_eq_true rfl)⟩, Nat.le_refl _, Nat.le_refl _⟩ rfl (Nat.le_of_ble_eq_true rfl) hl.1 dX7_worst_37 (fun H locs h => ?_)
      obtain ⟨σ1, e_σ1⟩ : ∃ z : St, z = hset σ 235 (trL X i) := ⟨_, rfl⟩
      have h := h.to e_σ1.symm
      have hD2 : DX σ1 (3 + 14 * i) (X.2.2 i) := by rw [e_σ1]; exact hD.congr (fun j h1 h2 => hset_n (by omega) (by omega) (by omega) (by omega))
      have hv1 : HV σ1 235 (trL X i) := by rw [e_σ1]; exact HV.hset
      have hc1 : CR σ1 X hh t := by rw [e_σ1]; exact CR_hset hc (by omega)
      refine lv_iconst (v := (-1)) hx hb dX7_worst_40 (by decide) ?_
      refine lv_istore (lv' := [(4, .int (-1)), (3, .ref (ad L (3 + 14 * i))), (0, .ref (ad L 244)), (1, .int (nI i)), (2, .int w)]) hx hb dX7_worst_41 hl (by decide) rfl (fun ls hl => ?_)
      refine lv_iconst (v := (nI 0)) hx hb dX7_worst_43 (by decide) ?_
      refine lv_istore (lv' := [(5, .int (nI 0)), (4, .int (-1)), (3, .ref (ad L (3 + 14 * i))), (0, .ref (ad L 244)), (1, .int (nI i)), (2, .int w)]) hx hb dX7_worst_44 hl (by decide) rfl (fun ls hl => ?_)
      refine lv_iconst (v := (nI 0)) hx hb dX7_worst_46 (by decide) ?_
      refine lv_istore (lv' := [(6, .int (nI 0)), (5, .int (nI 0)), (4, .int (-1)), (3, .ref (ad L (3 + 14 * i))), (0, .ref (ad L 244)), (1, .int (nI i)), (2, .int w)]) hx hb dX7_worst_47 hl (by decide) rfl (fun ls hl => ?_)
      have LP_49 : ∀ (n_49 : Nat) (k : Nat) (f : Int32) (fq : Int32), (k ≤ 11) → (wrS (trL X i) (X.2.2 i).2.2.1 k = (f, fq)) → 11 - k < n_49 → ∀ (H : Heap) (locs : List Loc) (ls : Array Slot), Hd L s.heap H σ1 locs → lv_has ls 8 [(6, .int (nI (100 * k))), (5, .int fq), (4, .int f), (3, .ref (ad L (3 + 14 * i))), (2, .int w), (0, .ref (ad L 244))] → W p l e rX7_worst s m args below meth c H locs 0 0 (MQ below (Qg post (bs L) (Aw L)) args s 0 0 (Aw L)) (F0 m 49 ls []) := by
        intro n_49
        induction n_49 with
        | zero => intro k f fq; intros; omega
        | succ n_49 ih_49 =>
          intro k f fq hk hw hm_49 H locs ls h hl
          have hok := h.ok
          refine lv_iload hx hb dX7_worst_49 (lv_at hl 0 rfl) ?_
          refine lv_sipush (v := (nI 1000)) hx hb dX7_worst_51 (by decide) ?_
          refine b_icmp_gt (tgt := 99) hx hb dX7_worst_54 (by decide) (by omega) (by omega) (fun c_54 => ?_) (fun c_54 => ?_)
          · have e4 : k = 11 := by omega
            rw [e4] at hw
            rw [hw] at hp
            refine lv_iload_n hx hb dX7_worst_99 rfl (lv_at hl 4 rfl) ?_
            refine lv_if_ne (tgt := 108) hx hb dX7_worst_100 (by decide) (fun c_100 => ?_) (fun c_100 => ?_)
            · rw [if_neg c_100] at hp
              refine lv_iload hx hb dX7_worst_108 (lv_at hl 2 rfl) ?_
              exact e_i S hK h hr hlk dX7_worst_110 (hp _ _ ⟨rfl, hc1⟩)
            · rw [if_pos c_100] at hp
              refine lv_iload hx hb dX7_worst_103 (lv_at hl 1 rfl) ?_
              refine lv_goto (tgt := 110) hx hb dX7_worst_105 (by decide) ?_
              exact e_i S hK h hr hlk dX7_worst_110 (hp _ _ ⟨rfl, hc1⟩)
          · have hk10 : 100 * k ≤ 1000 := c_54
            refine lv_aload_n hx hb dX7_worst_57 rfl (lv_at hl 5 rfl) ?_
            refine g_main S hK h (by decide) 5 235 (by decide) rfl rfl q_178 dX7_worst_58 ?_
            refine lv_iload hx hb dX7_worst_61 (lv_at hl 0 rfl) ?_
            refine q_V1 (ci := 1) S hI hK h [.int (nI (100 * k))] (c_X1_quantileAt l L σ1 (by decide) hv1  (nI (100 * k))) (by decide) rfl (by decide) q_487 q_488 q_489 q_6 q_490 yd_X1_quantileAt rfl ⟨⟨rfl, rfl⟩, ⟨(Nat.le_of_ble_eq_true rfl), (Nat.le_of_ble_eq_true rfl)⟩, Nat.le_refl _, Nat.le_refl _⟩ rfl (Nat.le_of_ble_eq_true rfl) hl.1 dX7_worst_63 (fun H locs h => ?_)
            refine lv_aload_n hx hb dX7_worst_66 rfl (lv_at hl 3 rfl) ?_
            refine lv_iload hx hb dX7_worst_67 (lv_at hl 0 rfl) ?_
            refine q_V1 (ci := 0) S hI hK h [.int (nI (100 * k))] (c_X0_trueQuantileAt l L σ1 (kd314 hi) hD2 hk10 (by omega)) (kd314 hi) rfl (by decide) q_504 q_505 q_506 q_5 q_507 yd_X0_trueQuantileAt rfl ⟨⟨rfl, rfl⟩, ⟨(Nat.le_of_ble_eq_true rfl), (Nat.le_of_ble_eq_true rfl)⟩, Nat.le_refl _, Nat.le_refl _⟩ rfl (Nat.le_of_ble_eq_true rfl) hl.1 dX7_worst_69 (fun H locs h => ?_)
            refine lv_isub hx hb dX7_worst_72 ?_
            refine va_mabs hx hb (S.2.2.1.trans hl.1.symm) S.2.2.2.1 (S.2.2.2.2 _ q_515) (S.2.2.2.2 _ q_516) (S.2.2.2.2 _ q_4) (S.2.2.2.2 _ q_517) (Nat.le_of_ble_eq_true rfl) (Nat.le_of_ble_eq_true rfl) (Nat.zero_le _) (Nat.zero_le _) dX7_worst_73 ?_
            refine lv_topi (fun far e_far => ?_)
            refine lv_istore (lv' := [(7, .int far), (6, .int (nI (100 * k))), (5, .int fq), (4, .int f), (3, .ref (ad L (3 + 14 * i))), (2, .int w), (0, .ref (ad L 244))]) hx hb dX7_worst_76 hl (by decide) rfl (fun ls hl => ?_)
            refine lv_iload hx hb dX7_worst_78 (lv_at hl 0 rfl) ?_
            refine lv_iload hx hb dX7_worst_80 (lv_at hl 3 rfl) ?_
            refine lv_icmp_le (tgt := 93) hx hb dX7_worst_82 (by decide) (fun c_82 => ?_) (fun c_82 => ?_)
            · refine lv_iinc (v := (nI (100 * k + 100))) (lv' := [(6, .int (nI (100 * k + 100))), (7, .int far), (5, .int fq), (4, .int f), (3, .ref (ad L (3 + 14 * i))), (2, .int w), (0, .ref (ad L 244))]) hx hb dX7_worst_93 hl (k := 1) rfl (iinc_k _ 100) (by decide) rfl (fun ls hl => ?_)
              refine lv_goto (tgt := 49) hx hb dX7_worst_96 (by decide) ?_
              exact ih_49 (k + 1) f fq (by omega) (by first | exact wrS_up hw e_far c_82 | exact wrS_no hw e_far c_82) (by omega) _ _ _ h (lv_sub hl [0, 2, 3, 4, 5, 6] rfl)
            · refine lv_iload hx hb dX7_worst_85 (lv_at hl 0 rfl) ?_
              refine lv_istore (lv' := [(4, .int far), (7, .int far), (6, .int (nI (100 * k))), (5, .int fq), (3, .ref (ad L (3 + 14 * i))), (2, .int w), (0, .ref (ad L 244))]) hx hb dX7_worst_87 hl (by decide) rfl (fun ls hl => ?_)
              refine lv_iload hx hb dX7_worst_89 (lv_at hl 2 rfl) ?_
              refine lv_istore (lv' := [(5, .int (nI (100 * k))), (4, .int far), (7, .int far), (6, .int (nI (100 * k))), (3, .ref (ad L (3 + 14 * i))), (2, .int w), (0, .ref (ad L 244))]) hx hb dX7_worst_91 hl (by decide) rfl (fun ls hl => ?_)
              refine lv_iinc (v := (nI (100 * k + 100))) (lv' := [(6, .int (nI (100 * k + 100))), (5, .int (nI (100 * k))), (4, .int far), (7, .int far), (3, .ref (ad L (3 + 14 * i))), (2, .int w), (0, .ref (ad L 244))]) hx hb dX7_worst_93 hl (k := 3) rfl (iinc_k _ 100) (by decide) rfl (fun ls hl => ?_)
              refine lv_goto (tgt := 49) hx hb dX7_worst_96 (by decide) ?_
              exact ih_49 (k + 1) far (nI (100 * k)) (by omega) (by first | exact wrS_up hw e_far c_82 | exact wrS_no hw e_far c_82) (by omega) _ _ _ h (lv_sub hl [0, 1, 2, 4, 5, 6] rfl)
      exact LP_49 _ 0 (-1) (nI 0) (by omega) rfl (Nat.lt_succ_self _) _ _ _ h (lv_sub hl [0, 1, 2, 3, 6, 4] rfl)
    · rw [if_pos c_29] at hp
      refine lv_ldc (v := (-1000002 : Int32)) hx hb S.2.2.2.1 (S.2.2.2.2 _ q_486) dX7_worst_32 ?_
      exact e_i S hK h hr hlk dX7_worst_34 (hp _ _ ⟨rfl, hc⟩)
  · rw [if_pos c_19] at hp
    refine lv_ldc (v := (-1000001 : Int32)) hx hb S.2.2.2.1 (S.2.2.2.2 _ q_203) dX7_worst_22 ?_
    exact e_i S hK h hr hlk dX7_worst_24 (hp _ _ ⟨rfl, hc⟩)

abbrev rX7_settingFor : Room := { frames := 4, cells := 0, slots := 0, locals := 92 }

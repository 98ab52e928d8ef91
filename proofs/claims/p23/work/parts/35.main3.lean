abbrev rX7_count_0 : Room := { frames := 4, cells := 0, slots := 0, locals := 83 }
theorem yd_X7_count : ydV yX7_count RX7 1 := ⟨rfl, by decide +kernel, by decide +kernel, by decide +kernel⟩
set_option maxHeartbeats 4000000 in
set_option maxRecDepth 100000 in
theorem c_X7_count_0 (l : Launch) (L : Lay) (σ : St) {X : SS} {hh : List SS} {t : List Int32} (hc : CR σ X hh t) (hX : XI X) : Mg l L yX7_count (Cond.code yX7_count cX7_count 2 (some FieldType.int) :: qA) rX7_count_0 [.ref (ad L 244), .int (nI 0)] σ (fun r u => r = some (.int (dW (X.2.2 0).1 (X.2.2 0).2.1 + dW (X.2.2 1).1 (X.2.2 1).2.1 + dW (X.2.2 2).1 (X.2.2 2).2.1)) ∧ CR u X hh t) := by
  refine Mr_ofW (by decide) (Nat.le_of_ble_eq_true rfl) ?_
  intro p e s m args below meth c ls post hp hI S hr hlk hK h hl
  have hx := S.1
  have hb := S.2.1
  have hok := h.ok
  have hl : lv_has ls 2 [(0, .ref (ad L 244)), (1, .int (nI 0))] := hl
  have hst : σ 1 = [X.1, X.2.1] := hc.1.1
  have hok0 := hok
  have hsz : σ 225 = [nI hh.length] := by obtain ⟨-, ⟨O, -, hs⟩, -⟩ := hc; exact hs.2.1
  refine lv_iload_n hx hb dX7_count_0 rfl (lv_at hl 1 rfl) ?_
  refine lv_lookup (off := 59) (tgt := 60) hx hb dX7_count_1 (by decide) (by decide) (by decide) ?_
  refine lv_aload_n hx hb dX7_count_60 rfl (lv_at hl 0 rfl) ?_
  refine g_main S hK h (by decide) 0 0 (by decide) rfl rfl q_173 dX7_count_61 ?_
  refine q_V1 (ci := 5) S hI hK h [] (c_X5_weight l L σ (by decide) hc.1) (by decide) rfl (by decide) q_369 q_370 q_371 q_2 q_372 yd_X5_weight rfl ⟨⟨rfl, rfl⟩, ⟨(Nat.le_of_ble_eq_true rfl), (Nat.le_of_ble_eq_true rfl)⟩, Nat.le_refl _, Nat.le_refl _⟩ rfl (Nat.le_of_ble_eq_true rfl) hl.1 dX7_count_64 (fun H locs h => ?_)
  exact e_i S hK h hr hlk dX7_count_67 (hp _ _ ⟨rfl, hc⟩)

abbrev rX7_count_1 : Room := { frames := 3, cells := 0, slots := 0, locals := 60 }
set_option maxHeartbeats 4000000 in
set_option maxRecDepth 100000 in
theorem c_X7_count_1 (l : Launch) (L : Lay) (σ : St) {X : SS} {hh : List SS} {t : List Int32} (hc : CR σ X hh t) (hX : XI X) : Mg l L yX7_count (Cond.code yX7_count cX7_count 2 (some FieldType.int) :: qA) rX7_count_1 [.ref (ad L 244), .int (nI 1)] σ (fun r u => r = some (.int (nI ((X.2.2 0).1.length + (X.2.2 1).1.length + (X.2.2 2).1.length))) ∧ CR u X hh t) := by
  refine Mr_ofW (by decide) (Nat.le_of_ble_eq_true rfl) ?_
  intro p e s m args below meth c ls post hp hI S hr hlk hK h hl
  have hx := S.1
  have hb := S.2.1
  have hok := h.ok
  have hl : lv_has ls 2 [(0, .ref (ad L 244)), (1, .int (nI 1))] := hl
  have hst : σ 1 = [X.1, X.2.1] := hc.1.1
  have hok0 := hok
  have hsz : σ 225 = [nI hh.length] := by obtain ⟨-, ⟨O, -, hs⟩, -⟩ := hc; exact hs.2.1
  refine lv_iload_n hx hb dX7_count_0 rfl (lv_at hl 1 rfl) ?_
  refine lv_lookup (off := 67) (tgt := 68) hx hb dX7_count_1 (by decide) (by decide) (by decide) ?_
  refine lv_aload_n hx hb dX7_count_68 rfl (lv_at hl 0 rfl) ?_
  refine g_main S hK h (by decide) 0 0 (by decide) rfl rfl q_173 dX7_count_69 ?_
  refine q_V1 (ci := 5) S hI hK h [] (c_X5_heapCount l L σ (by decide) hc.1) (by decide) rfl (by decide) q_374 q_375 q_376 q_2 q_377 yd_X5_heapCount rfl ⟨⟨rfl, rfl⟩, ⟨(Nat.le_of_ble_eq_true rfl), (Nat.le_of_ble_eq_true rfl)⟩, Nat.le_refl _, Nat.le_refl _⟩ rfl (Nat.le_of_ble_eq_true rfl) hl.1 dX7_count_72 (fun H locs h => ?_)
  exact e_i S hK h hr hlk dX7_count_75 (hp _ _ ⟨rfl, hc⟩)

abbrev rX7_count_2 : Room := { frames := 1, cells := 0, slots := 0, locals := 20 }
set_option maxHeartbeats 4000000 in
set_option maxRecDepth 100000 in
theorem c_X7_count_2 (l : Launch) (L : Lay) (σ : St) {X : SS} {hh : List SS} {t : List Int32} (hc : CR σ X hh t) (hX : XI X) : Mg l L yX7_count (Cond.code yX7_count cX7_count 2 (some FieldType.int) :: qA) rX7_count_2 [.ref (ad L 244), .int (nI 2)] σ (fun r u => r = some (.int (nI hh.length)) ∧ CR u X hh t) := by
  refine Mr_ofW (by decide) (Nat.le_of_ble_eq_true rfl) ?_
  intro p e s m args below meth c ls post hp hI S hr hlk hK h hl
  have hx := S.1
  have hb := S.2.1
  have hok := h.ok
  have hl : lv_has ls 2 [(0, .ref (ad L 244)), (1, .int (nI 2))] := hl
  have hst : σ 1 = [X.1, X.2.1] := hc.1.1
  have hok0 := hok
  have hsz : σ 225 = [nI hh.length] := by obtain ⟨-, ⟨O, -, hs⟩, -⟩ := hc; exact hs.2.1
  refine lv_iload_n hx hb dX7_count_0 rfl (lv_at hl 1 rfl) ?_
  refine lv_lookup (off := 75) (tgt := 76) hx hb dX7_count_1 (by decide) (by decide) (by decide) ?_
  refine lv_aload_n hx hb dX7_count_76 rfl (lv_at hl 0 rfl) ?_
  refine g_main S hK h (by decide) 1 225 (by decide) rfl rfl q_174 dX7_count_77 ?_
  refine q_V1 (ci := 2) S hI hK h [] (c_X2_size l L σ (nI hh.length) hsz) (by decide) rfl (by decide) q_379 q_380 q_381 q_7 q_382 yd_X2_size rfl ⟨⟨rfl, rfl⟩, ⟨(Nat.le_of_ble_eq_true rfl), (Nat.le_of_ble_eq_true rfl)⟩, Nat.le_refl _, Nat.le_refl _⟩ rfl (Nat.le_of_ble_eq_true rfl) hl.1 dX7_count_80 (fun H locs h => ?_)
  exact e_i S hK h hr hlk dX7_count_83 (hp _ _ ⟨rfl, hc⟩)

abbrev rX7_count_3 : Room := { frames := 1, cells := 0, slots := 0, locals := 20 }
set_option maxHeartbeats 4000000 in
set_option maxRecDepth 100000 in
theorem c_X7_count_3 (l : Launch) (L : Lay) (σ : St) {X : SS} {hh : List SS} {t : List Int32} (hc : CR σ X hh t) (hX : XI X) : Mg l L yX7_count (Cond.code yX7_count cX7_count 2 (some FieldType.int) :: qA) rX7_count_3 [.ref (ad L 244), .int (nI 3)] σ (fun r u => r = some (.int (nI t.length)) ∧ CR u X hh t) := by
  refine Mr_ofW (by decide) (Nat.le_of_ble_eq_true rfl) ?_
  intro p e s m args below meth c ls post hp hI S hr hlk hK h hl
  have hx := S.1
  have hb := S.2.1
  have hok := h.ok
  have hl : lv_has ls 2 [(0, .ref (ad L 244)), (1, .int (nI 3))] := hl
  have hst : σ 1 = [X.1, X.2.1] := hc.1.1
  have hok0 := hok
  have hsz : σ 225 = [nI hh.length] := by obtain ⟨-, ⟨O, -, hs⟩, -⟩ := hc; exact hs.2.1
  refine lv_iload_n hx hb dX7_count_0 rfl (lv_at hl 1 rfl) ?_
  refine lv_lookup (off := 83) (tgt := 84) hx hb dX7_count_1 (by decide) (by decide) (by decide) ?_
  refine lv_aload_n hx hb dX7_count_84 rfl (lv_at hl 0 rfl) ?_
  refine g_main S hK h (by decide) 2 227 (by decide) rfl rfl q_175 dX7_count_85 ?_
  refine q_V1 (ci := 4) S hI hK h [] (c_X4_length l L σ (by decide)) (by decide) rfl (by decide) q_383 q_217 q_218 q_3 q_219 yd_X4_length rfl ⟨⟨rfl, rfl⟩, ⟨(Nat.le_of_ble_eq_true rfl), (Nat.le_of_ble_eq_true rfl)⟩, Nat.le_refl _, Nat.le_refl _⟩ rfl (Nat.le_of_ble_eq_true rfl) hl.1 dX7_count_88 (fun H locs h => ?_)
  refine cv_i (show (nI ((σ 227).length) : Int32) = nI t.length from (by rw [hc.2.2])) ?_
  exact e_i S hK h hr hlk dX7_count_91 (hp _ _ ⟨rfl, hc⟩)

abbrev rX7_count_20 : Room := { frames := 1, cells := 0, slots := 0, locals := 21 }
set_option maxHeartbeats 4000000 in
set_option maxRecDepth 100000 in
theorem c_X7_count_20 (l : Launch) (L : Lay) (σ : St) {X : SS} {hh : List SS} {t : List Int32} (hc : CR σ X hh t) (hX : XI X) : Mg l L yX7_count (Cond.code yX7_count cX7_count 2 (some FieldType.int) :: qA) rX7_count_20 [.ref (ad L 244), .int (nI 20)] σ (fun r u => r = some (.int (X.1)) ∧ CR u X hh t) := by
  refine Mr_ofW (by decide) (Nat.le_of_ble_eq_true rfl) ?_
  intro p e s m args below meth c ls post hp hI S hr hlk hK h hl
  have hx := S.1
  have hb := S.2.1
  have hok := h.ok
  have hl : lv_has ls 2 [(0, .ref (ad L 244)), (1, .int (nI 20))] := hl
  have hst : σ 1 = [X.1, X.2.1] := hc.1.1
  have hok0 := hok
  have hsz : σ 225 = [nI hh.length] := by obtain ⟨-, ⟨O, -, hs⟩, -⟩ := hc; exact hs.2.1
  refine lv_iload_n hx hb dX7_count_0 rfl (lv_at hl 1 rfl) ?_
  refine lv_lookup (off := 91) (tgt := 92) hx hb dX7_count_1 (by decide) (by decide) (by decide) ?_
  refine lv_aload_n hx hb dX7_count_92 rfl (lv_at hl 0 rfl) ?_
  refine g_main S hK h (by decide) 0 0 (by decide) rfl rfl q_173 dX7_count_93 ?_
  refine g_settings S hK h (by decide) q_101 dX7_count_96 ?_
  refine lv_iconst (v := (nI 0)) hx hb dX7_count_99 (by decide) ?_
  refine q_V1 (ci := 4) S hI hK h [.int (nI 0)] (c_X4_at l L σ (by decide) (by omega)) (by decide) rfl (by decide) q_338 q_213 q_214 q_3 q_215 yd_X4_at rfl ⟨⟨rfl, rfl⟩, ⟨(Nat.le_of_ble_eq_true rfl), (Nat.le_of_ble_eq_true rfl)⟩, Nat.le_refl _, Nat.le_refl _⟩ rfl (Nat.le_of_ble_eq_true rfl) hl.1 dX7_count_100 (fun H locs h => ?_)
  refine cv_i (show ((σ 1).getD 0 0 : Int32) = X.1 from (by rw [hst]; rfl)) ?_
  exact e_i S hK h hr hlk dX7_count_103 (hp _ _ ⟨rfl, hc⟩)

abbrev rX7_count_21 : Room := { frames := 1, cells := 0, slots := 0, locals := 21 }
set_option maxHeartbeats 4000000 in
set_option maxRecDepth 100000 in
theorem c_X7_count_21 (l : Launch) (L : Lay) (σ : St) {X : SS} {hh : List SS} {t : List Int32} (hc : CR σ X hh t) (hX : XI X) : Mg l L yX7_count (Cond.code yX7_count cX7_count 2 (some FieldType.int) :: qA) rX7_count_21 [.ref (ad L 244), .int (nI 21)] σ (fun r u => r = some (.int (X.2.1)) ∧ CR u X hh t) := by
  refine Mr_ofW (by decide) (Nat.le_of_ble_eq_true rfl) ?_
  intro p e s m args below meth c ls post hp hI S hr hlk hK h hl
  have hx := S.1
  have hb := S.2.1
  have hok := h.ok
  have hl : lv_has ls 2 [(0, .ref (ad L 244)), (1, .int (nI 21))] := hl
  have hst : σ 1 = [X.1, X.2.1] := hc.1.1
  have hok0 := hok
  have hsz : σ 225 = [nI hh.length] := by obtain ⟨-, ⟨O, -, hs⟩, -⟩ := hc; exact hs.2.1
  refine lv_iload_n hx hb dX7_count_0 rfl (lv_at hl 1 rfl) ?_
  refine lv_lookup (off := 103) (tgt := 104) hx hb dX7_count_1 (by decide) (by decide) (by decide) ?_
  refine lv_aload_n hx hb dX7_count_104 rfl (lv_at hl 0 rfl) ?_
  refine g_main S hK h (by decide) 0 0 (by decide) rfl rfl q_173 dX7_count_105 ?_
  refine g_settings S hK h (by decide) q_101 dX7_count_108 ?_
  refine lv_iconst (v := (nI 1)) hx hb dX7_count_111 (by decide) ?_
  refine q_V1 (ci := 4) S hI hK h [.int (nI 1)] (c_X4_at l L σ (by decide) (by omega)) (by decide) rfl (by decide) q_338 q_213 q_214 q_3 q_215 yd_X4_at rfl ⟨⟨rfl, rfl⟩, ⟨(Nat.le_of_ble_eq_true rfl), (Nat.le_of_ble_eq_true rfl)⟩, Nat.le_refl _, Nat.le_refl _⟩ rfl (Nat.le_of_ble_eq_true rfl) hl.1 dX7_count_112 (fun H locs h => ?_)
  refine cv_i (show ((σ 1).getD 1 0 : Int32) = X.2.1 from (by rw [hst]; rfl)) ?_
  exact e_i S hK h hr hlk dX7_count_115 (hp _ _ ⟨rfl, hc⟩)

abbrev rX7_count_n : Room := { frames := 0, cells := 0, slots := 0, locals := 0 }
set_option maxHeartbeats 4000000 in
set_option maxRecDepth 100000 in
theorem c_X7_count_n (l : Launch) (L : Lay) (σ : St) {X : SS} {hh : List SS} {t : List Int32} (hc : CR σ X hh t) (hX : XI X) {w : Int32} (hw : w ≠ 0 ∧ w ≠ 1 ∧ w ≠ 2 ∧ w ≠ 3 ∧ w ≠ 20 ∧ w ≠ 21) : Mg l L yX7_count (Cond.code yX7_count cX7_count 2 (some FieldType.int) :: qA) rX7_count_n [.ref (ad L 244), .int w] σ (fun r u => r = some (.int cINV) ∧ CR u X hh t) := by
  refine Mr_ofW (by decide) (Nat.le_of_ble_eq_true rfl) ?_
  intro p e s m args below meth c ls post hp hI S hr hlk hK h hl
  have hx := S.1
  have hb := S.2.1
  have hok := h.ok
  have hl : lv_has ls 2 [(0, .ref (ad L 244)), (1, .int w)] := hl
  have hst : σ 1 = [X.1, X.2.1] := hc.1.1
  have hok0 := hok
  refine lv_iload_n hx hb dX7_count_0 rfl (lv_at hl 1 rfl) ?_
  refine lv_lookup (off := 115) (tgt := 116) hx hb dX7_count_1 (by decide) (lk_out hw) (by decide) ?_
  refine lv_ldc (v := (-1000001 : Int32)) hx hb S.2.2.2.1 (S.2.2.2.2 _ q_203) dX7_count_116 ?_
  exact e_i S hK h hr hlk dX7_count_118 (hp _ _ ⟨rfl, hc⟩)

abbrev rX7_undo_n : Room := { frames := 1, cells := 0, slots := 0, locals := 20 }
abbrev rX7_undo : Room := { frames := 6, cells := 0, slots := 0, locals := 166 }
abbrev rX7_type : Room := { frames := 1, cells := 0, slots := 0, locals := 22 }
abbrev rX7_clearText : Room := { frames := 1, cells := 0, slots := 0, locals := 20 }
abbrev rX7_fault : Room := { frames := 6, cells := 0, slots := 0, locals := 139 }
abbrev rX7_play_n : Room := { frames := 6, cells := 0, slots := 0, locals := 139 }

abbrev rX7_count_0 : Room := { frames := 4, cells := 0, slots := 0, locals := 83 }
theorem yd_X7_count : ydV yX7_count RX7 1 := ⟨rfl, by decide +kernel, by decide +kernel, by decide +kernel⟩
set_option maxHeartbeats 4000000 in
set_option maxRecDepth 100000 in
theorem c_X7_count_0 (l : Launch) (L : Lay) (σ : St) {X : SS} {hh : List SS} {t : List Int32} (hc : CR σ X hh t) (hX : XI X) : Mg l L yX7_count (Cond.code yX7_count cX7_count 2 (some FieldType.int) :: qA) rX7_count_0 [.ref (ad L 244), .int (nI 0)] σ (fun r u => r = some (.int (dW (X.2.2 0).1 (X.2.2 0).2.1 + dW (X.2.2 1).1 (X.2.2 1).2.1 + dW (X.2.2 2).1 (X.2.2 2).2.1)) ∧ CR u X hh t) := by
  refine Mr_ofW (by decide) (Nat.le_of_ble_eq_true rfl) ?_
  intro p e s m args below meth c ls post hp hI S hr hlk hK h hl
  have hx := S.1
  have hb := S.2.1
  have hok := h.ok
  have hl : lv_has ls 2 [(0, .ref (ad L 244)), (1, .int (nI 0))] := hl
  have hst : σ 1 = [X.1, X.2.1] := hc.1.1
  have hok0 := hok
  have hsz : σ 225 = [nI hh.length] := by obtain ⟨-, ⟨O, -, hs⟩, -⟩ := hc; exact hs.2.1
  refine lv_iload_n hx hb dX7_count_0 rfl (lv_at hl 1 rfl) ?_
  refine lv_lookup (off := 59) (tgt := 60) hx hb dX7_count_1 (by decide) (by decide) (by decide) ?_
  refine lv_aload_n hx hb dX7_count_60 rfl (lv_at hl 0 rfl) ?_
  refine g_main S hK h (by decide) 0 0 (by decide) rfl rfl q_184 dX7_count_61 ?_
  refine q_V1 (ci := 5) S hI hK h [] (c_X5_weight l L σ (by decide) hc.1) (by decide) rfl (by decide) q_515 q_516 q_517 q_2 q_518 yd_X5_weight rfl ⟨⟨rfl, rfl⟩, ⟨(Nat.le_of_ble_eq_true rfl), (Nat.le_of_ble_eq_true rfl)⟩, Nat.le_refl _, Nat.le_refl _⟩ rfl (Nat.le_of_ble_eq_true rfl) hl.1 dX7_count_64 (fun H locs h => ?_)
  exact e_i S hK h hr hlk dX7_count_67 (hp _ _ ⟨rfl, hc⟩)

abbrev rX7_count_1 : Room := { frames := 3, cells := 0, slots := 0, locals := 60 }
set_option maxHeartbeats 4000000 in
set_option maxRecDepth 100000 in
theorem c_X7_count_1 (l : Launch) (L : Lay) (σ : St) {X : SS} {hh : List SS} {t : List Int32} (hc : CR σ X hh t) (hX : XI X) : Mg l L yX7_count (Cond.code yX7_count cX7_count 2 (some FieldType.int) :: qA) rX7_count_1 [.ref (ad L 244), .int (nI 1)] σ (fun r u => r = some (.int (nI ((X.2.2 0).1.length + (X.2.2 1).1.length + (X.2.2 2).1.length))) ∧ CR u X hh t) := by
  refine Mr_ofW (by decide) (Nat.le_of_ble_eq_true rfl) ?_
  intro p e s m args below meth c ls post hp hI S hr hlk hK h hl
  have hx := S.1
  have hb := S.2.1
  have hok := h.ok
  have hl : lv_has ls 2 [(0, .ref (ad L 244)), (1, .int (nI 1))] := hl
  have hst : σ 1 = [X.1, X.2.1] := hc.1.1
  have hok0 := hok
  have hsz : σ 225 = [nI hh.length] := by obtain ⟨-, ⟨O, -, hs⟩, -⟩ := hc; exact hs.2.1
  refine lv_iload_n hx hb dX7_count_0 rfl (lv_at hl 1 rfl) ?_
  refine lv_lookup (off := 67) (tgt := 68) hx hb dX7_count_1 (by decide) (by decide) (by decide) ?_
  refine lv_aload_n hx hb dX7_count_68 rfl (lv_at hl 0 rfl) ?_
  refine g_main S hK h (by decide) 0 0 (by decide) rfl rfl q_184 dX7_count_69 ?_
  refine q_V1 (ci := 5) S hI hK h [] (c_X5_heapCount l L σ (by decide) hc.1) (by decide) rfl (by decide) q_520 q_521 q_522 q_2 q_523 yd_X5_heapCount rfl ⟨⟨rfl, rfl⟩, ⟨(Nat.le_of_ble_eq_true rfl), (Nat.le_of_ble_eq_true rfl)⟩, Nat.le_refl _, Nat.le_refl _⟩ rfl (Nat.le_of_ble_eq_true rfl) hl.1 dX7_count_72 (fun H locs h => ?_)
  exact e_i S hK h hr hlk dX7_count_75 (hp _ _ ⟨rfl, hc⟩)

abbrev rX7_count_2 : Room := { frames := 1, cells := 0, slots := 0, locals := 20 }
set_option maxHeartbeats 4000000 in
set_option maxRecDepth 100000 in
theorem c_X7_count_2 (l : Launch) (L : Lay) (σ : St) {X : SS} {hh : List SS} {t : List Int32} (hc : CR σ X hh t) (hX : XI X) : Mg l L yX7_count (Cond.code yX7_count cX7_count 2 (some FieldType.int) :: qA) rX7_count_2 [.ref (ad L 244), .int (nI 2)] σ (fun r u => r = some (.int (nI hh.length)) ∧ CR u X hh t) := by
  refine Mr_ofW (by decide) (Nat.le_of_ble_eq_true rfl) ?_
  intro p e s m args below meth c ls post hp hI S hr hlk hK h hl
  have hx := S.1
  have hb := S.2.1
  have hok := h.ok
  have hl : lv_has ls 2 [(0, .ref (ad L 244)), (1, .int (nI 2))] := hl
  have hst : σ 1 = [X.1, X.2.1] := hc.1.1
  have hok0 := hok
  have hsz : σ 225 = [nI hh.length] := by obtain ⟨-, ⟨O, -, hs⟩, -⟩ := hc; exact hs.2.1
  refine lv_iload_n hx hb dX7_count_0 rfl (lv_at hl 1 rfl) ?_
  refine lv_lookup (off := 75) (tgt := 76) hx hb dX7_count_1 (by decide) (by decide) (by decide) ?_
  refine lv_aload_n hx hb dX7_count_76 rfl (lv_at hl 0 rfl) ?_
  refine g_main S hK h (by decide) 1 225 (by decide) rfl rfl q_185 dX7_count_77 ?_
  refine q_V1 (ci := 2) S hI hK h [] (c_X2_size l L σ (nI hh.length) hsz) (by decide) rfl (by decide) q_525 q_526 q_527 q_7 q_528 yd_X2_size rfl ⟨⟨rfl, rfl⟩, ⟨(Nat.le_of_ble_eq_true rfl), (Nat.le_of_ble_eq_true rfl)⟩, Nat.le_refl _, Nat.le_refl _⟩ rfl (Nat.le_of_ble_eq_true rfl) hl.1 dX7_count_80 (fun H locs h => ?_)
  exact e_i S hK h hr hlk dX7_count_83 (hp _ _ ⟨rfl, hc⟩)

abbrev rX7_count_3 : Room := { frames := 1, cells := 0, slots := 0, locals := 20 }
set_option maxHeartbeats 4000000 in
set_option maxRecDepth 100000 in
theorem c_X7_count_3 (l : Launch) (L : Lay) (σ : St) {X : SS} {hh : List SS} {t : List Int32} (hc : CR σ X hh t) (hX : XI X) : Mg l L yX7_count (Cond.code yX7_count cX7_count 2 (some FieldType.int) :: qA) rX7_count_3 [.ref (ad L 244), .int (nI 3)] σ (fun r u => r = some (.int (nI t.length)) ∧ CR u X hh t) := by
  refine Mr_ofW (by decide) (Nat.le_of_ble_eq_true rfl) ?_
  intro p e s m args below meth c ls post hp hI S hr hlk hK h hl
  have hx := S.1
  have hb := S.2.1
  have hok := h.ok
  have hl : lv_has ls 2 [(0, .ref (ad L 244)), (1, .int (nI 3))] := hl
  have hst : σ 1 = [X.1, X.2.1] := hc.1.1
  have hok0 := hok
  have hsz : σ 225 = [nI hh.length] := by obtain ⟨-, ⟨O, -, hs⟩, -⟩ := hc; exact hs.2.1
  refine lv_iload_n hx hb dX7_count_0 rfl (lv_at hl 1 rfl) ?_
  refine lv_lookup (off := 83) (tgt := 84) hx hb dX7_count_1 (by decide) (by decide) (by decide) ?_
  refine lv_aload_n hx hb dX7_count_84 rfl (lv_at hl 0 rfl) ?_
  refine g_main S hK h (by decide) 2 227 (by decide) rfl rfl q_186 dX7_count_85 ?_
  refine q_V1 (ci := 4) S hI hK h [] (c_X4_length l L σ (by decide)) (by decide) rfl (by decide) q_416 q_228 q_229 q_3 q_230 yd_X4_length rfl ⟨⟨rfl, rfl⟩, ⟨(Nat.le_of_ble_eq_true rfl), (Nat.le_of_ble_eq_true rfl)⟩, Nat.le_refl _, Nat.le_refl _⟩ rfl (Nat.le_of_ble_eq_true rfl) hl.1 dX7_count_88 (fun H locs h => ?_)
  refine cv_i (show (nI ((σ 227).length) : Int32) = nI t.length from (by rw [hc.2.2])) ?_
  exact e_i S hK h hr hlk dX7_count_91 (hp _ _ ⟨rfl, hc⟩)

abbrev rX7_count_20 : Room := { frames := 1, cells := 0, slots := 0, locals := 21 }
set_option maxHeartbeats 4000000 in
set_option maxRecDepth 100000 in
theorem c_X7_count_20 (l : Launch) (L : Lay) (σ : St) {X : SS} {hh : List SS} {t : List Int32} (hc : CR σ X hh t) (hX : XI X) : Mg l L yX7_count (Cond.code yX7_count cX7_count 2 (some FieldType.int) :: qA) rX7_count_20 [.ref (ad L 244), .int (nI 20)] σ (fun r u => r = some (.int (X.1)) ∧ CR u X hh t) := by
  refine Mr_ofW (by decide) (Nat.le_of_ble_eq_true rfl) ?_
  intro p e s m args below meth c ls post hp hI S hr hlk hK h hl
  have hx := S.1
  have hb := S.2.1
  have hok := h.ok
  have hl : lv_has ls 2 [(0, .ref (ad L 244)), (1, .int (nI 20))] := hl
  have hst : σ 1 = [X.1, X.2.1] := hc.1.1
  have hok0 := hok
  have hsz : σ 225 = [nI hh.length] := by obtain ⟨-, ⟨O, -, hs⟩, -⟩ := hc; exact hs.2.1
  refine lv_iload_n hx hb dX7_count_0 rfl (lv_at hl 1 rfl) ?_
  refine lv_lookup (off := 91) (tgt := 92) hx hb dX7_count_1 (by decide) (by decide) (by decide) ?_
  refine lv_aload_n hx hb dX7_count_92 rfl (lv_at hl 0 rfl) ?_
  refine g_main S hK h (by decide) 0 0 (by decide) rfl rfl q_184 dX7_count_93 ?_
  refine g_settings S hK h (by decide) q_103 dX7_count_96 ?_
  refine lv_iconst (v := (nI 0)) hx hb dX7_count_99 (by decide) ?_
  refine q_V1 (ci := 4) S hI hK h [.int (nI 0)] (c_X4_at l L σ (by decide) (by omega)) (by decide) rfl (by decide) q_349 q_224 q_225 q_3 q_226 yd_X4_at rfl ⟨⟨rfl, rfl⟩, ⟨(Nat.le_of_ble_eq_true rfl), (Nat.le_of_ble_eq_true rfl)⟩, Nat.le_refl _, Nat.le_refl _⟩ rfl (Nat.le_of_ble_eq_true rfl) hl.1 dX7_count_100 (fun H locs h => ?_)
  refine cv_i (show ((σ 1).getD 0 0 : Int32) = X.1 from (by rw [hst]; rfl)) ?_
  exact e_i S hK h hr hlk dX7_count_103 (hp _ _ ⟨rfl, hc⟩)

abbrev rX7_count_21 : Room := { frames := 1, cells := 0, slots := 0, locals := 21 }
set_option maxHeartbeats 4000000 in
set_option maxRecDepth 100000 in
theorem c_X7_count_21 (l : Launch) (L : Lay) (σ : St) {X : SS} {hh : List SS} {t : List Int32} (hc : CR σ X hh t) (hX : XI X) : Mg l L yX7_count (Cond.code yX7_count cX7_count 2 (some FieldType.int) :: qA) rX7_count_21 [.ref (ad L 244), .int (nI 21)] σ (fun r u => r = some (.int (X.2.1)) ∧ CR u X hh t) := by
  refine Mr_ofW (by decide) (Nat.le_of_ble_eq_true rfl) ?_
  intro p e s m args below meth c ls post hp hI S hr hlk hK h hl
  have hx := S.1
  have hb := S.2.1
  have hok := h.ok
  have hl : lv_has ls 2 [(0, .ref (ad L 244)), (1, .int (nI 21))] := hl
  have hst : σ 1 = [X.1, X.2.1] := hc.1.1
  have hok0 := hok
  have hsz : σ 225 = [nI hh.length] := by obtain ⟨-, ⟨O, -, hs⟩, -⟩ := hc; exact hs.2.1
  refine lv_iload_n hx hb dX7_count_0 rfl (lv_at hl 1 rfl) ?_
  refine lv_lookup (off := 103) (tgt := 104) hx hb dX7_count_1 (by decide) (by decide) (by decide) ?_
  refine lv_aload_n hx hb dX7_count_104 rfl (lv_at hl 0 rfl) ?_
  refine g_main S hK h (by decide) 0 0 (by decide) rfl rfl q_184 dX7_count_105 ?_
  refine g_settings S hK h (by decide) q_103 dX7_count_108 ?_
  refine lv_iconst (v := (nI 1)) hx hb dX7_count_111 (by decide) ?_
  refine q_V1 (ci := 4) S hI hK h [.int (nI 1)] (c_X4_at l L σ (by decide) (by omega)) (by decide) rfl (by decide) q_349 q_224 q_225 q_3 q_226 yd_X4_at rfl ⟨⟨rfl, rfl⟩, ⟨(Nat.le_of_ble_eq_true rfl), (Nat.le_of_ble_eq_true rfl)⟩, Nat.le_refl _, Nat.le_refl _⟩ rfl (Nat.le_of_ble_eq_true rfl) hl.1 dX7_count_112 (fun H locs h => ?_)
  refine cv_i (show ((σ 1).getD 1 0 : Int32) = X.2.1 from (by rw [hst]; rfl)) ?_
  exact e_i S hK h hr hlk dX7_count_115 (hp _ _ ⟨rfl, hc⟩)

abbrev rX7_count_n : Room := { frames := 0, cells := 0, slots := 0, locals := 0 }
set_option maxHeartbeats 4000000 in
set_option maxRecDepth 100000 in
theorem c_X7_count_n (l : Launch) (L : Lay) (σ : St) {X : SS} {hh : List SS} {t : List Int32} (hc : CR σ X hh t) (hX : XI X) {w : Int32} (hw : w ≠ 0 ∧ w ≠ 1 ∧ w ≠ 2 ∧ w ≠ 3 ∧ w ≠ 20 ∧ w ≠ 21) : Mg l L yX7_count (Cond.code yX7_count cX7_count 2 (some FieldType.int) :: qA) rX7_count_n [.ref (ad L 244), .int w] σ (fun r u => r = some (.int cINV) ∧ CR u X hh t) := by
  refine Mr_ofW (by decide) (Nat.le_of_ble_eq_true rfl) ?_
  intro p e s m args below meth c ls post hp hI S hr hlk hK h hl
  have hx := S.1
  have hb := S.2.1
  have hok := h.ok
  have hl : lv_has ls 2 [(0, .ref (ad L 244)), (1, .int w)] := hl
  have hst : σ 1 = [X.1, X.2.1] := hc.1.1
  have hok0 := hok
  refine lv_iload_n hx hb dX7_count_0 rfl (lv_at hl 1 rfl) ?_
  refine lv_lookup (off := 115) (tgt := 116) hx hb dX7_count_1 (by decide) (lk_out hw) (by decide) ?_
  refine lv_ldc (v := (-1000001 : Int32)) hx hb S.2.2.2.1 (S.2.2.2.2 _ q_214) dX7_count_116 ?_
  exact e_i S hK h hr hlk dX7_count_118 (hp _ _ ⟨rfl, hc⟩)

abbrev rX7_undo_n : Room := { frames := 1, cells := 0, slots := 0, locals := 20 }
theorem yd_X7_undo : ydV yX7_undo RX7 0 := ⟨rfl, by decide +kernel, by decide +kernel, by decide +kernel⟩
set_option maxHeartbeats 4000000 in
set_option maxRecDepth 100000 in
theorem c_X7_undo_n (l : Launch) (L : Lay) (σ : St) {X : SS} {t : List Int32} (hc : CR σ X [] t) (hX : XI X) : Mg l L yX7_undo (Cond.code yX7_undo cX7_undo 1 (some FieldType.int) :: qA) rX7_undo_n [.ref (ad L 244)] σ (fun r u => r = some (.int cNP) ∧ CR u X [] t) := by
  refine Mr_ofW (by decide) (Nat.le_of_ble_eq_true rfl) ?_
  intro p e s m args below meth c ls post hp hI S hr hlk hK h hl
  have hx := S.1
  have hb := S.2.1
  have hok := h.ok
  have hl : lv_has ls 1 [(0, .ref (ad L 244))] := hl
  have hst : σ 1 = [X.1, X.2.1] := hc.1.1
  have hok0 := hok
  have hsz : σ 225 = [nI 0] := by obtain ⟨-, ⟨O, -, hs⟩, -⟩ := hc; exact hs.2.1
  refine lv_aload_n hx hb dX7_undo_0 rfl (lv_at hl 0 rfl) ?_
  refine g_main S hK h (by decide) 1 225 (by decide) rfl rfl q_185 dX7_undo_1 ?_
  refine q_V1 (ci := 2) S hI hK h [] (c_X2_size l L σ (nI 0) hsz) (by decide) rfl (by decide) q_525 q_526 q_527 q_7 q_528 yd_X2_size rfl ⟨⟨rfl, rfl⟩, ⟨(Nat.le_of_ble_eq_true rfl), (Nat.le_of_ble_eq_true rfl)⟩, Nat.le_refl _, Nat.le_refl _⟩ rfl (Nat.le_of_ble_eq_true rfl) hl.1 dX7_undo_4 (fun H locs h => ?_)
  refine cv_i (show (nI 0 : Int32) = nI 0 from rfl) ?_
  refine b_if_ne (tgt := 13) hx hb dX7_undo_7 (by decide) (by decide) (fun c9 => absurd c9 (by decide)) (fun _ => ?_)
  refine lv_ldc (v := (-1000002 : Int32)) hx hb S.2.2.2.1 (S.2.2.2.2 _ q_457) dX7_undo_10 ?_
  exact e_i S hK h hr hlk dX7_undo_12 (hp _ _ ⟨rfl, hc⟩)

abbrev rX7_undo : Room := { frames := 6, cells := 0, slots := 0, locals := 166 }
set_option maxHeartbeats 4000000 in
set_option maxRecDepth 100000 in
theorem c_X7_undo (l : Launch) (L : Lay) (σ : St) {X Y : SS} {hh : List SS} {t : List Int32} (hc : CR σ X (hh ++ [Y]) t) (hX : XI X) : Mg l L yX7_undo (Cond.code yX7_undo cX7_undo 1 (some FieldType.int) :: qA) rX7_undo [.ref (ad L 244)] σ (fun r u => r = some (.int (nI hh.length)) ∧ CR u Y hh t) := by
  refine Mr_ofW (by decide) (Nat.le_of_ble_eq_true rfl) ?_
  intro p e s m args below meth c ls post hp hI S hr hlk hK h hl
  have hx := S.1
  have hb := S.2.1
  have hok := h.ok
  have hl : lv_has ls 1 [(0, .ref (ad L 244))] := hl
  have hst : σ 1 = [X.1, X.2.1] := hc.1.1
  have hok0 := hok
  have hsz : σ 225 = [nI (hh.length + 1)] := by obtain ⟨-, ⟨O, -, hs⟩, -⟩ := hc; have := hs.2.1; rw [List.length_append, List.length_singleton] at this; exact this
  have hl4 : hh.length + 1 ≤ 4 := by obtain ⟨-, ⟨O, -, hs⟩, -⟩ := hc; have := hs.1; rw [List.length_append, List.length_singleton] at this; exact this
  refine lv_aload_n hx hb dX7_undo_0 rfl (lv_at hl 0 rfl) ?_
  refine g_main S hK h (by decide) 1 225 (by decide) rfl rfl q_185 dX7_undo_1 ?_
  refine q_V1 (ci := 2) S hI hK h [] (c_X2_size l L σ (nI (hh.length + 1)) hsz) (by decide) rfl (by decide) q_525 q_526 q_527 q_7 q_528 yd_X2_size rfl ⟨⟨rfl, rfl⟩, ⟨(Nat.le_of_ble_eq_true rfl), (Nat.le_of_ble_eq_true rfl)⟩, Nat.le_refl _, Nat.le_refl _⟩ rfl (Nat.le_of_ble_eq_true rfl) hl.1 dX7_undo_4 (fun H locs h => ?_)
  refine cv_i (show (nI (hh.length + 1) : Int32) = nI (hh.length + 1) from rfl) ?_
  refine b_if_ne (tgt := 13) hx hb dX7_undo_7 (by decide) (by omega) (fun c_7 => ?_) (fun c_7 => absurd c_7 (by omega))
  refine lv_aload_n hx hb dX7_undo_13 rfl (lv_at hl 0 rfl) ?_
  refine g_main S hK h (by decide) 1 225 (by decide) rfl rfl q_185 dX7_undo_14 ?_
  refine lv_aload_n hx hb dX7_undo_17 rfl (lv_at hl 0 rfl) ?_
  refine g_main S hK h (by decide) 0 0 (by decide) rfl rfl q_184 dX7_undo_18 ?_
  refine q_VR0 (ci := 2) S hI hK h [.ref (ad L 0)] (c_X2_restoreLatest l L σ hc) (by decide) rfl (by decide) q_533 q_534 q_535 q_7 q_536 yd_X2_restoreLatest rfl ⟨⟨rfl, rfl⟩, ⟨(Nat.le_of_ble_eq_true rfl), (Nat.le_of_ble_eq_true rfl)⟩, Nat.le_refl _, Nat.le_refl _⟩ rfl (Nat.le_of_ble_eq_true rfl) hl.1 dX7_undo_21 (fun σ1 H locs hp9 h => ?_)
  obtain ⟨hc1, ho1⟩ := hp9
  have hsz1 : σ1 225 = [nI hh.length] := by obtain ⟨-, ⟨O, -, hs⟩, -⟩ := hc1; exact hs.2.1
  refine lv_aload_n hx hb dX7_undo_24 rfl (lv_at hl 0 rfl) ?_
  refine g_main S hK h (by decide) 1 225 (by decide) rfl rfl q_185 dX7_undo_25 ?_
  refine q_V1 (ci := 2) S hI hK h [] (c_X2_size l L σ1 (nI hh.length) hsz1) (by decide) rfl (by decide) q_525 q_526 q_527 q_7 q_528 yd_X2_size rfl ⟨⟨rfl, rfl⟩, ⟨(Nat.le_of_ble_eq_true rfl), (Nat.le_of_ble_eq_true rfl)⟩, Nat.le_refl _, Nat.le_refl _⟩ rfl (Nat.le_of_ble_eq_true rfl) hl.1 dX7_undo_28 (fun H locs h => ?_)
  exact e_i S hK h hr hlk dX7_undo_31 (hp _ _ ⟨rfl, hc1⟩)

abbrev rX7_type : Room := { frames := 1, cells := 0, slots := 0, locals := 22 }
theorem yd_X7_type : ydV yX7_type RX7 1 := ⟨rfl, by decide +kernel, by decide +kernel, by decide +kernel⟩
set_option maxHeartbeats 4000000 in
set_option maxRecDepth 100000 in
theorem c_X7_type (l : Launch) (L : Lay) (σ : St) {X : SS} {hh : List SS} {t : List Int32} (hc : CR σ X hh t) (hX : XI X) (x : Int32) : Mg l L yX7_type (Cond.code yX7_type cX7_type 2 (some FieldType.int) :: qA) rX7_type [.ref (ad L 244), .int x] σ (fun r u => r = some (.int (cTyp t x).1) ∧ CR u X hh (cTyp t x).2) := by
  refine Mr_ofW (by decide) (Nat.le_of_ble_eq_true rfl) ?_
  intro p e s m args below meth c ls post hp hI S hr hlk hK h hl
  have hx := S.1
  have hb := S.2.1
  have hok := h.ok
  have hl : lv_has ls 2 [(0, .ref (ad L 244)), (1, .int x)] := hl
  have hst : σ 1 = [X.1, X.2.1] := hc.1.1
  have hok0 := hok
  unfold cTyp at hp
  have ht60 : t.length ≤ 60 := by rw [← hc.2.2]; exact hok 227 (by decide)
  refine lv_iload_n hx hb dX7_type_0 rfl (lv_at hl 1 rfl) ?_
  refine lv_bipush (v := (nI 32)) hx hb dX7_type_1 (by decide) ?_
  refine lv_bipush (v := (nI 126)) hx hb dX7_type_3 (by decide) ?_
  refine q_S1 S hI hK h [.int x, .int (nI 32), .int (nI 126)] (c_X7_isWithin l L σ x (nI 32) (nI 126)) q_211 q_212 q_1 q_213 yd_X7_isWithin rfl ⟨⟨rfl, rfl⟩, ⟨(Nat.le_of_ble_eq_true rfl), (Nat.le_of_ble_eq_true rfl)⟩, Nat.le_refl _, Nat.le_refl _⟩ rfl (Nat.le_of_ble_eq_true rfl) hl.1 dX7_type_5 (fun H locs h => ?_)
  refine z_ne (tgt := 14) hx hb dX7_type_8 (by decide) (fun c_8 => ?_) (fun c_8 => ?_)
  · rw [if_neg (fun q => q c_8)] at hp
    refine lv_aload_n hx hb dX7_type_14 rfl (lv_at hl 0 rfl) ?_
    refine g_main S hK h (by decide) 2 227 (by decide) rfl rfl q_186 dX7_type_15 ?_
    refine q_V1 (ci := 4) S hI hK h [] (c_X4_length l L σ (by decide)) (by decide) rfl (by decide) q_416 q_228 q_229 q_3 q_230 yd_X4_length rfl ⟨⟨rfl, rfl⟩, ⟨(Nat.le_of_ble_eq_true rfl), (Nat.le_of_ble_eq_true rfl)⟩, Nat.le_refl _, Nat.le_refl _⟩ rfl (Nat.le_of_ble_eq_true rfl) hl.1 dX7_type_18 (fun H locs h => ?_)
    refine cv_i (show (nI ((σ 227).length) : Int32) = nI t.length from (by rw [hc.2.2])) ?_
    refine lv_bipush (v := (nI 60)) hx hb dX7_type_21 (by decide) ?_
    refine b_icmp_lt (tgt := 29) hx hb dX7_type_23 (by decide) (by omega) (by omega) (fun c_23 => ?_) (fun c_23 => ?_)
    · rw [if_neg (Nat.not_le.mpr c_23)] at hp
      refine lv_aload_n hx hb dX7_type_29 rfl (lv_at hl 0 rfl) ?_
      refine g_main S hK h (by decide) 2 227 (by decide) rfl rfl q_186 dX7_type_30 ?_
      refine lv_iload_n hx hb dX7_type_33 rfl (lv_at hl 1 rfl) ?_
      refine q_V0 (ci := 4) S hI hK h [.int x] (c_X4_append l L σ (by decide) (by rw [hc.2.2]; exact c_23) x) (by decide) rfl (by decide) q_541 q_99 q_100 q_3 q_101 yd_X4_append rfl ⟨⟨rfl, rfl⟩, ⟨(Nat.le_of_ble_eq_true rfl), (Nat.le_of_ble_eq_true rfl)⟩, Nat.le_refl _, Nat.le_refl _⟩ rfl (Nat.le_of_ble_eq_true rfl) hl.1 dX7_type_34 (fun H locs h => ?_)
      have h := h.to (show up σ 227 ((σ 227) ++ [x]) = up σ 227 (t ++ [x]) from (by rw [hc.2.2]))
      refine lv_aload_n hx hb dX7_type_37 rfl (lv_at hl 0 rfl) ?_
      refine g_main S hK h (by decide) 2 227 (by decide) rfl rfl q_186 dX7_type_38 ?_
      refine q_V1 (ci := 4) S hI hK h [] (c_X4_length l L (up σ 227 (t ++ [x])) (by decide)) (by decide) rfl (by decide) q_416 q_228 q_229 q_3 q_230 yd_X4_length rfl ⟨⟨rfl, rfl⟩, ⟨(Nat.le_of_ble_eq_true rfl), (Nat.le_of_ble_eq_true rfl)⟩, Nat.le_refl _, Nat.le_refl _⟩ rfl (Nat.le_of_ble_eq_true rfl) hl.1 dX7_type_41 (fun H locs h => ?_)
      refine cv_i (show (nI (((up σ 227 (t ++ [x])) 227).length) : Int32) = nI (t.length + 1) from (by rw [up_s, List.length_append, List.length_singleton])) ?_
      exact e_i S hK h hr hlk dX7_type_44 (hp _ _ ⟨rfl, CR_text hc⟩)
    · rw [if_pos c_23] at hp
      refine lv_ldc (v := (-1000003 : Int32)) hx hb S.2.2.2.1 (S.2.2.2.2 _ q_231) dX7_type_26 ?_
      exact e_i S hK h hr hlk dX7_type_28 (hp _ _ ⟨rfl, hc⟩)
  · rw [if_pos c_8] at hp
    refine lv_ldc (v := (-1000001 : Int32)) hx hb S.2.2.2.1 (S.2.2.2.2 _ q_214) dX7_type_11 ?_
    exact e_i S hK h hr hlk dX7_type_13 (hp _ _ ⟨rfl, hc⟩)

abbrev rX7_clearText : Room := { frames := 1, cells := 0, slots := 0, locals := 20 }
theorem yd_X7_clearText : ydV yX7_clearText RX7 0 := ⟨rfl, by decide +kernel, by decide +kernel, by decide +kernel⟩
set_option maxHeartbeats 4000000 in
set_option maxRecDepth 100000 in
theorem c_X7_clearText (l : Launch) (L : Lay) (σ : St) {X : SS} {hh : List SS} {t : List Int32} (hc : CR σ X hh t) (hX : XI X) : Mg l L yX7_clearText (Cond.code yX7_clearText cX7_clearText 2 (some FieldType.int) :: qA) rX7_clearText [.ref (ad L 244)] σ (fun r u => r = some (.int (nI t.length)) ∧ CR u X hh []) := by
  refine Mr_ofW (by decide) (Nat.le_of_ble_eq_true rfl) ?_
  intro p e s m args below meth c ls post hp hI S hr hlk hK h hl
  have hx := S.1
  have hb := S.2.1
  have hok := h.ok
  have hl : lv_has ls 2 [(0, .ref (ad L 244))] := hl
  have hst : σ 1 = [X.1, X.2.1] := hc.1.1
  have hok0 := hok
  refine lv_aload_n hx hb dX7_clearText_0 rfl (lv_at hl 0 rfl) ?_
  refine g_main S hK h (by decide) 2 227 (by decide) rfl rfl q_186 dX7_clearText_1 ?_
  refine q_V1 (ci := 4) S hI hK h [] (c_X4_length l L σ (by decide)) (by decide) rfl (by decide) q_416 q_228 q_229 q_3 q_230 yd_X4_length rfl ⟨⟨rfl, rfl⟩, ⟨(Nat.le_of_ble_eq_true rfl), (Nat.le_of_ble_eq_true rfl)⟩, Nat.le_refl _, Nat.le_refl _⟩ rfl (Nat.le_of_ble_eq_true rfl) hl.1 dX7_clearText_4 (fun H locs h => ?_)
  refine cv_i (show (nI ((σ 227).length) : Int32) = nI t.length from (by rw [hc.2.2])) ?_
  refine lv_istore_n (lv' := [(1, .int (nI t.length)), (0, .ref (ad L 244))]) hx hb dX7_clearText_7 rfl hl (by decide) rfl (fun ls hl => ?_)
  refine lv_aload_n hx hb dX7_clearText_8 rfl (lv_at hl 1 rfl) ?_
  refine g_main S hK h (by decide) 2 227 (by decide) rfl rfl q_186 dX7_clearText_9 ?_
  refine q_V0 (ci := 4) S hI hK h [] (c_X4_empty l L σ (by decide)) (by decide) rfl (by decide) q_546 q_285 q_286 q_3 q_287 yd_X4_empty rfl ⟨⟨rfl, rfl⟩, ⟨(Nat.le_of_ble_eq_true rfl), (Nat.le_of_ble_eq_true rfl)⟩, Nat.le_refl _, Nat.le_refl _⟩ rfl (Nat.le_of_ble_eq_true rfl) hl.1 dX7_clearText_12 (fun H locs h => ?_)
  refine lv_iload_n hx hb dX7_clearText_15 rfl (lv_at hl 0 rfl) ?_
  exact e_i S hK h hr hlk dX7_clearText_16 (hp _ _ ⟨rfl, CR_text hc⟩)

abbrev rX7_fault : Room := { frames := 6, cells := 0, slots := 0, locals := 139 }
theorem yd_X7_fault : ydV yX7_fault RX7 1 := ⟨rfl, by decide +kernel, by decide +kernel, by decide +kernel⟩
set_option maxHeartbeats 4000000 in
set_option maxRecDepth 100000 in
theorem c_X7_fault (l : Launch) (L : Lay) (σ : St) {X : SS} {hh : List SS} {t : List Int32} (hc : CR σ X hh t) (hX : XI X) (w : Int32) : Mg l L yX7_fault (Cond.code yX7_fault cX7_fault 2 (some FieldType.int) :: qA) rX7_fault [.ref (ad L 244), .int w] σ (fun r u => r = some (.int (cFau X t w)) ∧ CR u X hh t) := by
  refine Mr_ofW (by decide) (Nat.le_of_ble_eq_true rfl) ?_
  intro p e s m args below meth c ls post hp hI S hr hlk hK h hl
  have hx := S.1
  have hb := S.2.1
  have hok := h.ok
  have hl : lv_has ls 2 [(0, .ref (ad L 244)), (1, .int w)] := hl
  have hst : σ 1 = [X.1, X.2.1] := hc.1.1
  have hok0 := hok
  unfold cFau at hp
  refine lv_iload_n hx hb dX7_fault_0 rfl (lv_at hl 1 rfl) ?_
  refine lv_iconst (v := (nI 0)) hx hb dX7_fault_1 (by decide) ?_
  refine lv_iconst (v := (nI 2)) hx hb dX7_fault_2 (by decide) ?_
  refine q_S1 S hI hK h [.int w, .int (nI 0), .int (nI 2)] (c_X7_isWithin l L σ w (nI 0) (nI 2)) q_211 q_212 q_1 q_213 yd_X7_isWithin rfl ⟨⟨rfl, rfl⟩, ⟨(Nat.le_of_ble_eq_true rfl), (Nat.le_of_ble_eq_true rfl)⟩, Nat.le_refl _, Nat.le_refl _⟩ rfl (Nat.le_of_ble_eq_true rfl) hl.1 dX7_fault_3 (fun H locs h => ?_)
  refine z_ne (tgt := 12) hx hb dX7_fault_6 (by decide) (fun c_6 => ?_) (fun c_6 => ?_)
  · rw [if_neg (fun q => q c_6)] at hp
    obtain ⟨n, -, hn2, rfl⟩ := rng_nat (a := 0) (b := 2) (by omega) (by omega) c_6
    rw [nI_clamp (show n < 2 ^ 31 by omega)] at hp
    refine lv_aload_n hx hb dX7_fault_12 rfl (lv_at hl 0 rfl) ?_
    refine g_main S hK h (by decide) 4 232 (by decide) rfl rfl q_188 dX7_fault_13 ?_
    refine lv_aload_n hx hb dX7_fault_16 rfl (lv_at hl 0 rfl) ?_
    refine g_main S hK h (by decide) 2 227 (by decide) rfl rfl q_186 dX7_fault_17 ?_
    refine lv_aload_n hx hb dX7_fault_20 rfl (lv_at hl 0 rfl) ?_
    refine g_main S hK h (by decide) 0 0 (by decide) rfl rfl q_184 dX7_fault_21 ?_
    refine lv_aload_n hx hb dX7_fault_24 rfl (lv_at hl 0 rfl) ?_
    refine g_main S hK h (by decide) 3 229 (by decide) rfl rfl q_187 dX7_fault_25 ?_
    refine q_VR0 (ci := 6) S hI hK h [.ref (ad L 227), .ref (ad L 0), .ref (ad L 229)] (c_X6_find l L σ hc.2.2 hc.1) (by decide) rfl (by decide) q_551 q_552 q_553 q_9 q_554 yd_X6_find rfl ⟨⟨rfl, rfl⟩, ⟨(Nat.le_of_ble_eq_true rfl), (Nat.le_of_ble_eq_true rfl)⟩, Nat.le_refl _, Nat.le_refl _⟩ rfl (Nat.le_of_ble_eq_true rfl) hl.1 dX7_fault_28 (fun σ1 H locs hp9 h => ?_)
    obtain ⟨ho1, hF⟩ := hp9
    have hc1 : CR σ1 X hh t := hc.congr (fun j hj => ho1 j (by omega) (by omega) (by omega) (by omega))
    obtain ⟨rs, hrs3, hre, hpp⟩ := FR_get hF
    refine lv_aload_n hx hb dX7_fault_31 rfl (lv_at hl 0 rfl) ?_
    refine g_main S hK h (by decide) 4 232 (by decide) rfl rfl q_188 dX7_fault_32 ?_
    refine g_reason S hK h (by decide) q_170 dX7_fault_35 ?_
    refine cv_i (show ((σ1 232).getD 1 0 : Int32) = nI rs from hre) ?_
    refine b_if_ne (tgt := 44) hx hb dX7_fault_38 (by decide) (by omega) (fun c_38 => ?_) (fun c_38 => ?_)
    · obtain ⟨p9, c9, hf9, h232⟩ := hpp.2 c_38
      rw [hf9] at hp
      refine lv_iload_n hx hb dX7_fault_44 rfl (lv_at hl 1 rfl) ?_
      refine b_if_ne (tgt := 56) hx hb dX7_fault_45 (by decide) (by omega) (fun c_45 => ?_) (fun c_45 => ?_)
      · refine lv_iload_n hx hb dX7_fault_56 rfl (lv_at hl 1 rfl) ?_
        refine lv_iconst (v := (nI 1)) hx hb dX7_fault_57 (by decide) ?_
        refine b_icmp_ne (tgt := 69) hx hb dX7_fault_58 (by decide) (by omega) (by omega) (fun c_58 => ?_) (fun c_58 => ?_)
        · obtain rfl : n = 2 := by omega
          refine lv_aload_n hx hb dX7_fault_69 rfl (lv_at hl 0 rfl) ?_
          refine g_main S hK h (by decide) 4 232 (by decide) rfl rfl q_188 dX7_fault_70 ?_
          refine g_reason S hK h (by decide) q_170 dX7_fault_73 ?_
          refine cv_i (show ((σ1 232).getD 1 0 : Int32) = nI rs from hre) ?_
          refine lv_iconst (v := (nI 1)) hx hb dX7_fault_76 (by decide) ?_
          refine b_icmp_ne (tgt := 90) hx hb dX7_fault_77 (by decide) (by omega) (by omega) (fun c_77 => ?_) (fun c_77 => ?_)
          · rw [show fauW (some (p9, rs, c9)) 2 = cNF from if_neg c_77] at hp
            refine lv_ldc (v := (-1000004 : Int32)) hx hb S.2.2.2.1 (S.2.2.2.2 _ q_393) dX7_fault_90 ?_
            exact e_i S hK h hr hlk dX7_fault_92 (hp _ _ ⟨rfl, hc1⟩)
          · rw [show fauW (some (p9, rs, c9)) 2 = c9 from if_pos c_77] at hp
            refine lv_aload_n hx hb dX7_fault_80 rfl (lv_at hl 0 rfl) ?_
            refine g_main S hK h (by decide) 4 232 (by decide) rfl rfl q_188 dX7_fault_81 ?_
            refine g_cause S hK h (by decide) q_172 dX7_fault_84 ?_
            refine cv_i (show ((σ1 232).getD 2 0 : Int32) = c9 from (by rw [h232]; rfl)) ?_
            refine lv_goto (tgt := 92) hx hb dX7_fault_87 (by decide) ?_
            exact e_i S hK h hr hlk dX7_fault_92 (hp _ _ ⟨rfl, hc1⟩)
        · rw [c_58] at hp
          refine lv_aload_n hx hb dX7_fault_61 rfl (lv_at hl 0 rfl) ?_
          refine g_main S hK h (by decide) 4 232 (by decide) rfl rfl q_188 dX7_fault_62 ?_
          refine g_reason S hK h (by decide) q_170 dX7_fault_65 ?_
          refine cv_i (show ((σ1 232).getD 1 0 : Int32) = nI rs from hre) ?_
          exact e_i S hK h hr hlk dX7_fault_68 (hp _ _ ⟨rfl, hc1⟩)
      · rw [c_45] at hp
        refine lv_aload_n hx hb dX7_fault_48 rfl (lv_at hl 0 rfl) ?_
        refine g_main S hK h (by decide) 4 232 (by decide) rfl rfl q_188 dX7_fault_49 ?_
        refine g_position S hK h (by decide) q_168 dX7_fault_52 ?_
        refine cv_i (show ((σ1 232).getD 0 0 : Int32) = nI p9 from (by rw [h232]; rfl)) ?_
        exact e_i S hK h hr hlk dX7_fault_55 (hp _ _ ⟨rfl, hc1⟩)
    · rw [(hpp.1 c_38)] at hp
      refine lv_ldc (v := (-1000004 : Int32)) hx hb S.2.2.2.1 (S.2.2.2.2 _ q_393) dX7_fault_41 ?_
      exact e_i S hK h hr hlk dX7_fault_43 (hp _ _ ⟨rfl, hc1⟩)
  · rw [if_pos c_6] at hp
    refine lv_ldc (v := (-1000001 : Int32)) hx hb S.2.2.2.1 (S.2.2.2.2 _ q_214) dX7_fault_9 ?_
    exact e_i S hK h hr hlk dX7_fault_11 (hp _ _ ⟨rfl, hc⟩)

abbrev rX7_play_n : Room := { frames := 6, cells := 0, slots := 0, locals := 139 }
theorem yd_X7_play : ydV yX7_play RX7 0 := ⟨rfl, by decide +kernel, by decide +kernel, by decide +kernel⟩
set_option maxHeartbeats 4000000 in
set_option maxRecDepth 100000 in
theorem c_X7_play_n (l : Launch) (L : Lay) (σ : St) {X : SS} {hh : List SS} {t : List Int32} (hc : CR σ X hh t) (hX : XI X) (hf : faultOf t X ≠ none) : Mg l L yX7_play (Cond.code yX7_play cX7_play 5 (some FieldType.int) :: qA) rX7_play_n [.ref (ad L 244)] σ (fun r u => r = some (.int cNP) ∧ CR u X hh t) := by
  refine Mr_ofW (by decide) (Nat.le_of_ble_eq_true rfl) ?_
  intro p e s m args below meth c ls post hp hI S hr hlk hK h hl
  have hx := S.1
  have hb := S.2.1
  have hok := h.ok
  have hl : lv_has ls 5 [(0, .ref (ad L 244))] := hl
  have hst : σ 1 = [X.1, X.2.1] := hc.1.1
  have hok0 := hok
  refine lv_aload_n hx hb dX7_play_0 rfl (lv_at hl 0 rfl) ?_
  refine g_main S hK h (by decide) 4 232 (by decide) rfl rfl q_188 dX7_play_1 ?_
  refine lv_aload_n hx hb dX7_play_4 rfl (lv_at hl 0 rfl) ?_
  refine g_main S hK h (by decide) 2 227 (by decide) rfl rfl q_186 dX7_play_5 ?_
  refine lv_aload_n hx hb dX7_play_8 rfl (lv_at hl 0 rfl) ?_
  refine g_main S hK h (by decide) 0 0 (by decide) rfl rfl q_184 dX7_play_9 ?_
  refine lv_aload_n hx hb dX7_play_12 rfl (lv_at hl 0 rfl) ?_
  refine g_main S hK h (by decide) 3 229 (by decide) rfl rfl q_187 dX7_play_13 ?_
  refine q_VR0 (ci := 6) S hI hK h [.ref (ad L 227), .ref (ad L 0), .ref (ad L 229)] (c_X6_find l L σ hc.2.2 hc.1) (by decide) rfl (by decide) q_551 q_552 q_553 q_9 q_554 yd_X6_find rfl ⟨⟨rfl, rfl⟩, ⟨(Nat.le_of_ble_eq_true rfl), (Nat.le_of_ble_eq_true rfl)⟩, Nat.le_refl _, Nat.le_refl _⟩ rfl (Nat.le_of_ble_eq_true rfl) hl.1 dX7_play_16 (fun σ1 H locs hp9 h => ?_)
  obtain ⟨ho1, hF⟩ := hp9
  have hc1 : CR σ1 X hh t := hc.congr (fun j hj => ho1 j (by omega) (by omega) (by omega) (by omega))
  obtain ⟨rs, hrs3, hre, hpp⟩ := FR_get hF
  refine lv_aload_n hx hb dX7_play_19 rfl (lv_at hl 0 rfl) ?_
  refine g_main S hK h (by decide) 4 232 (by decide) rfl rfl q_188 dX7_play_20 ?_
  refine g_reason S hK h (by decide) q_170 dX7_play_23 ?_
  refine cv_i (show ((σ1 232).getD 1 0 : Int32) = nI rs from hre) ?_
  refine b_if_eq (tgt := 32) hx hb dX7_play_26 (by decide) (by omega) (fun c_26 => ?_) (fun c_26 => ?_)
  · exact absurd (hpp.1 c_26) hf
  · refine lv_ldc (v := (-1000002 : Int32)) hx hb S.2.2.2.1 (S.2.2.2.2 _ q_457) dX7_play_29 ?_
    exact e_i S hK h hr hlk dX7_play_31 (hp _ _ ⟨rfl, hc1⟩)

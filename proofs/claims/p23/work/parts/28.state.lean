theorem Ol_get {O : Nat → Nat} {i : Nat} (h : i < 4) : (Ol O).getD i 0 = nI (O i) := by
  rcases (show i = 0 ∨ i = 1 ∨ i = 2 ∨ i = 3 by omega) with rfl | rfl | rfl | rfl <;> rfl
abbrev rX5_digestAt : Room := { frames := 0, cells := 0, slots := 0, locals := 0 }
theorem yd_X5_digestAt : ydV yX5_digestAt RX5 1 := ⟨rfl, by decide +kernel, by decide +kernel, by decide +kernel⟩
set_option maxHeartbeats 4000000 in
set_option maxRecDepth 100000 in
theorem c_X5_digestAt (l : Launch) (L : Lay) (σ : St) {k i : Nat} (hk : kd k = 5) (hi : i < 3) : Mf l L yX5_digestAt (Cond.code yX5_digestAt cX5_digestAt 2 (some (FieldType.object "QuantileDigests$Digest")) :: qA) rX5_digestAt [.ref (ad L k), .int (nI i)] σ (some (.ref (ad L (k + 3 + 14 * i)))) σ := by
  refine Mf.ofW (by decide) (Nat.le_of_ble_eq_true rfl) ?_
  intro p e s m args below meth c ls post hp hI S hr hlk hK h hl
  have hx := S.1
  have hb := S.2.1
  have hok := h.ok
  have hl : lv_has ls 2 [(0, .ref (ad L k)), (1, .int (nI i))] := hl
  refine lv_iload_n hx hb dX5_digestAt_0 rfl (lv_at hl 1 rfl) ?_
  rcases (show i = 0 ∨ i = 1 ∨ i = 2 by omega) with rfl | rfl | rfl
  · refine lv_tableIn (tgt := 28) hx hb dX5_digestAt_1 (by decide) (by decide) rfl (by decide) ?_
    refine lv_aload_n hx hb dX5_digestAt_28 rfl (lv_at hl 0 rfl) ?_
    refine g_first S hK h hk q_102 dX5_digestAt_29 ?_
    exact e_a S hK h hr hlk (Or.inr ⟨_, rfl⟩) dX5_digestAt_32 hp
  · refine lv_tableIn (tgt := 33) hx hb dX5_digestAt_1 (by decide) (by decide) rfl (by decide) ?_
    refine lv_aload_n hx hb dX5_digestAt_33 rfl (lv_at hl 0 rfl) ?_
    refine g_second S hK h hk q_103 dX5_digestAt_34 ?_
    exact e_a S hK h hr hlk (Or.inr ⟨_, rfl⟩) dX5_digestAt_37 hp
  · refine lv_tableIn (tgt := 38) hx hb dX5_digestAt_1 (by decide) (by decide) rfl (by decide) ?_
    refine lv_aload_n hx hb dX5_digestAt_38 rfl (lv_at hl 0 rfl) ?_
    refine g_third S hK h hk q_104 dX5_digestAt_39 ?_
    exact e_a S hK h hr hlk (Or.inr ⟨_, rfl⟩) dX5_digestAt_42 hp

abbrev rX5_digestAt_n : Room := { frames := 0, cells := 0, slots := 0, locals := 0 }
set_option maxHeartbeats 4000000 in
set_option maxRecDepth 100000 in
theorem c_X5_digestAt_n (l : Launch) (L : Lay) (σ : St) {k : Nat} {x : Int32} (hk : kd k = 5) (hx2 : x.toInt < 0 ∨ 2 < x.toInt) : Mf l L yX5_digestAt (Cond.code yX5_digestAt cX5_digestAt 2 (some (FieldType.object "QuantileDigests$Digest")) :: qA) rX5_digestAt_n [.ref (ad L k), .int x] σ (some (.null)) σ := by
  refine Mf.ofW (by decide) (Nat.le_of_ble_eq_true rfl) ?_
  intro p e s m args below meth c ls post hp hI S hr hlk hK h hl
  have hx := S.1
  have hb := S.2.1
  have hok := h.ok
  have hl : lv_has ls 2 [(0, .ref (ad L k)), (1, .int x)] := hl
  refine lv_iload_n hx hb dX5_digestAt_0 rfl (lv_at hl 1 rfl) ?_
  refine lv_tableOut (tgt := 43) hx hb dX5_digestAt_1 hx2 (by decide) ?_
  refine lv_null hx hb dX5_digestAt_43 ?_
  exact e_a S hK h hr hlk (Or.inl rfl) dX5_digestAt_44 hp

abbrev rX5_weight : Room := { frames := 3, cells := 0, slots := 0, locals := 63 }
theorem yd_X5_weight : ydV yX5_weight RX5 0 := ⟨rfl, by decide +kernel, by decide +kernel, by decide +kernel⟩
set_option maxHeartbeats 4000000 in
set_option maxRecDepth 100000 in
theorem c_X5_weight (l : Launch) (L : Lay) (σ : St) {k : Nat} {X : SS} (hk : kd k = 5) (hv : SV σ k X) : Mf l L yX5_weight (Cond.code yX5_weight cX5_weight 1 (some FieldType.int) :: qA) rX5_weight [.ref (ad L k)] σ (some (.int (dW (X.2.2 0).1 (X.2.2 0).2.1 + dW (X.2.2 1).1 (X.2.2 1).2.1 + dW (X.2.2 2).1 (X.2.2 2).2.1))) σ := by
  refine Mf.ofW (by decide) (Nat.le_of_ble_eq_true rfl) ?_
  intro p e s m args below meth c ls post hp hI S hr hlk hK h hl
  have hx := S.1
  have hb := S.2.1
  have hok := h.ok
  have hl : lv_has ls 1 [(0, .ref (ad L k))] := hl
  refine lv_aload_n hx hb dX5_weight_0 rfl (lv_at hl 0 rfl) ?_
  refine g_first S hK h hk q_102 dX5_weight_1 ?_
  refine q_V1 (ci := 0) S hI hK h [] (c_X0_weight l L σ (kd5_1 hk) (hv.2 0 (by omega))) (kd5_1 hk) rfl (by decide) q_373 q_205 q_206 q_5 q_207 yd_X0_weight rfl ⟨⟨rfl, rfl⟩, ⟨(Nat.le_of_ble_eq_true rfl), (Nat.le_of_ble_eq_true rfl)⟩, Nat.le_refl _, Nat.le_refl _⟩ rfl (Nat.le_of_ble_eq_true rfl) hl.1 dX5_weight_4 (fun H locs h => ?_)
  refine lv_aload_n hx hb dX5_weight_7 rfl (lv_at hl 0 rfl) ?_
  refine g_second S hK h hk q_103 dX5_weight_8 ?_
  refine q_V1 (ci := 0) S hI hK h [] (c_X0_weight l L σ (kd5_2 hk) (hv.2 1 (by omega))) (kd5_2 hk) rfl (by decide) q_373 q_205 q_206 q_5 q_207 yd_X0_weight rfl ⟨⟨rfl, rfl⟩, ⟨(Nat.le_of_ble_eq_true rfl), (Nat.le_of_ble_eq_true rfl)⟩, Nat.le_refl _, Nat.le_refl _⟩ rfl (Nat.le_of_ble_eq_true rfl) hl.1 dX5_weight_11 (fun H locs h => ?_)
  refine lv_iadd hx hb dX5_weight_14 ?_
  refine lv_aload_n hx hb dX5_weight_15 rfl (lv_at hl 0 rfl) ?_
  refine g_third S hK h hk q_104 dX5_weight_16 ?_
  refine q_V1 (ci := 0) S hI hK h [] (c_X0_weight l L σ (kd5_3 hk) (hv.2 2 (by omega))) (kd5_3 hk) rfl (by decide) q_373 q_205 q_206 q_5 q_207 yd_X0_weight rfl ⟨⟨rfl, rfl⟩, ⟨(Nat.le_of_ble_eq_true rfl), (Nat.le_of_ble_eq_true rfl)⟩, Nat.le_refl _, Nat.le_refl _⟩ rfl (Nat.le_of_ble_eq_true rfl) hl.1 dX5_weight_19 (fun H locs h => ?_)
  refine lv_iadd hx hb dX5_weight_22 ?_
  exact e_i S hK h hr hlk dX5_weight_23 hp

abbrev rX5_heapCount : Room := { frames := 2, cells := 0, slots := 0, locals := 40 }
theorem yd_X5_heapCount : ydV yX5_heapCount RX5 0 := ⟨rfl, by decide +kernel, by decide +kernel, by decide +kernel⟩
set_option maxHeartbeats 4000000 in
set_option maxRecDepth 100000 in
theorem c_X5_heapCount (l : Launch) (L : Lay) (σ : St) {k : Nat} {X : SS} (hk : kd k = 5) (hv : SV σ k X) : Mf l L yX5_heapCount (Cond.code yX5_heapCount cX5_heapCount 1 (some FieldType.int) :: qA) rX5_heapCount [.ref (ad L k)] σ (some (.int (nI ((X.2.2 0).1.length + (X.2.2 1).1.length + (X.2.2 2).1.length)))) σ := by
  refine Mf.ofW (by decide) (Nat.le_of_ble_eq_true rfl) ?_
  intro p e s m args below meth c ls post hp hI S hr hlk hK h hl
  have hx := S.1
  have hb := S.2.1
  have hok := h.ok
  have hl : lv_has ls 1 [(0, .ref (ad L k))] := hl
  refine lv_aload_n hx hb dX5_heapCount_0 rfl (lv_at hl 0 rfl) ?_
  refine g_first S hK h hk q_102 dX5_heapCount_1 ?_
  refine g_heaps S hK h (kd5_1 hk) q_81 dX5_heapCount_4 ?_
  refine q_V1 (ci := 1) S hI hK h [] (c_X1_size l L σ (kd0_heaps (kd5_1 hk)) (hv.2 0 (by omega)).1) (kd0_heaps (kd5_1 hk)) rfl (by decide) q_378 q_286 q_287 q_6 q_288 yd_X1_size rfl ⟨⟨rfl, rfl⟩, ⟨(Nat.le_of_ble_eq_true rfl), (Nat.le_of_ble_eq_true rfl)⟩, Nat.le_refl _, Nat.le_refl _⟩ rfl (Nat.le_of_ble_eq_true rfl) hl.1 dX5_heapCount_7 (fun H locs h => ?_)
  refine lv_aload_n hx hb dX5_heapCount_10 rfl (lv_at hl 0 rfl) ?_
  refine g_second S hK h hk q_103 dX5_heapCount_11 ?_
  refine g_heaps S hK h (kd5_2 hk) q_81 dX5_heapCount_14 ?_
  refine q_V1 (ci := 1) S hI hK h [] (c_X1_size l L σ (kd0_heaps (kd5_2 hk)) (hv.2 1 (by omega)).1) (kd0_heaps (kd5_2 hk)) rfl (by decide) q_378 q_286 q_287 q_6 q_288 yd_X1_size rfl ⟨⟨rfl, rfl⟩, ⟨(Nat.le_of_ble_eq_true rfl), (Nat.le_of_ble_eq_true rfl)⟩, Nat.le_refl _, Nat.le_refl _⟩ rfl (Nat.le_of_ble_eq_true rfl) hl.1 dX5_heapCount_17 (fun H locs h => ?_)
  refine a_iadd hx hb dX5_heapCount_20 ?_
  refine lv_aload_n hx hb dX5_heapCount_21 rfl (lv_at hl 0 rfl) ?_
  refine g_third S hK h hk q_104 dX5_heapCount_22 ?_
  refine g_heaps S hK h (kd5_3 hk) q_81 dX5_heapCount_25 ?_
  refine q_V1 (ci := 1) S hI hK h [] (c_X1_size l L σ (kd0_heaps (kd5_3 hk)) (hv.2 2 (by omega)).1) (kd0_heaps (kd5_3 hk)) rfl (by decide) q_378 q_286 q_287 q_6 q_288 yd_X1_size rfl ⟨⟨rfl, rfl⟩, ⟨(Nat.le_of_ble_eq_true rfl), (Nat.le_of_ble_eq_true rfl)⟩, Nat.le_refl _, Nat.le_refl _⟩ rfl (Nat.le_of_ble_eq_true rfl) hl.1 dX5_heapCount_28 (fun H locs h => ?_)
  refine a_iadd hx hb dX5_heapCount_31 ?_
  exact e_i S hK h hr hlk dX5_heapCount_32 hp

abbrev rX5_copyFrom : Room := { frames := 4, cells := 0, slots := 0, locals := 123 }
theorem yd_X5_copyFrom : ydV yX5_copyFrom RX5 1 := ⟨rfl, by decide +kernel, by decide +kernel, by decide +kernel⟩
set_option maxHeartbeats 4000000 in
set_option maxRecDepth 100000 in
theorem c_X5_copyFrom (l : Launch) (L : Lay) (σ : St) {k k2 : Nat} {X : SS} (hk : kd k = 5) (hk2 : kd k2 = 5) (hap : k + 45 ≤ k2 ∨ k2 + 45 ≤ k) (hv2 : SV σ k2 X) : Mf l L yX5_copyFrom (Cond.code yX5_copyFrom cX5_copyFrom 2 none :: qA) rX5_copyFrom [.ref (ad L k), .ref (ad L k2)] σ none (sset σ k X) := by
  refine Mf.ofW (by decide) (Nat.le_of_ble_eq_true rfl) ?_
  intro p e s m args below meth c ls post hp hI S hr hlk hK h hl
  have hx := S.1
  have hb := S.2.1
  have hok := h.ok
  have hl : lv_has ls 2 [(0, .ref (ad L k)), (1, .ref (ad L k2))] := hl
  have hc := (kd_5h k (kd_of hk) hk).2.2.2.2.1
  have e1 := hv2.1
  refine lv_aload_n hx hb dX5_copyFrom_0 rfl (lv_at hl 0 rfl) ?_
  refine g_settings S hK h hk q_100 dX5_copyFrom_1 ?_
  refine lv_aload_n hx hb dX5_copyFrom_4 rfl (lv_at hl 1 rfl) ?_
  refine g_settings S hK h hk2 q_100 dX5_copyFrom_5 ?_
  refine q_V0 (ci := 4) S hI hK h [.ref (ad L (k2 + 1))] (c_X4_copyFrom l L σ (kd5_s hk) (kd5_s hk2) (by omega) (by rw [e1, hc]; exact Nat.le_refl 2)) (kd5_s hk) rfl (by decide) q_237 q_238 q_239 q_3 q_240 yd_X4_copyFrom rfl ⟨⟨rfl, rfl⟩, ⟨(Nat.le_of_ble_eq_true rfl), (Nat.le_of_ble_eq_true rfl)⟩, Nat.le_refl _, Nat.le_refl _⟩ rfl (Nat.le_of_ble_eq_true rfl) hl.1 dX5_copyFrom_8 (fun H locs h => ?_)
  have h := h.to (show up σ (k + 1) (σ (k2 + 1)) = up σ (k + 1) [X.1, X.2.1] from (by rw [e1]))
  have hv3 : SV (up σ (k + 1) [X.1, X.2.1]) k2 X := hv2.congr (fun j h1 h2 => up_n (by omega))
  refine lv_aload_n hx hb dX5_copyFrom_11 rfl (lv_at hl 0 rfl) ?_
  refine g_first S hK h hk q_102 dX5_copyFrom_12 ?_
  refine lv_aload_n hx hb dX5_copyFrom_15 rfl (lv_at hl 1 rfl) ?_
  refine g_first S hK h hk2 q_102 dX5_copyFrom_16 ?_
  refine q_V0 (ci := 0) S hI hK h [.ref (ad L (k2 + 3))] (c_X0_copyFrom l L (up σ (k + 1) [X.1, X.2.1]) (kd5_1 hk) (kd5_1 hk2) (by omega) (hv3.2 0 (by omega))) (kd5_1 hk) rfl (by decide) q_247 q_248 q_249 q_5 q_250 yd_X0_copyFrom rfl ⟨⟨rfl, rfl⟩, ⟨(Nat.le_of_ble_eq_true rfl), (Nat.le_of_ble_eq_true rfl)⟩, Nat.le_refl _, Nat.le_refl _⟩ rfl (Nat.le_of_ble_eq_true rfl) hl.1 dX5_copyFrom_19 (fun H locs h => ?_)
  have hv4 : SV (dx (up σ (k + 1) [X.1, X.2.1]) (k + 3) (X.2.2 0)) k2 X := hv3.congr (fun j h1 h2 => dset_n (by omega))
  refine lv_aload_n hx hb dX5_copyFrom_22 rfl (lv_at hl 0 rfl) ?_
  refine g_second S hK h hk q_103 dX5_copyFrom_23 ?_
  refine lv_aload_n hx hb dX5_copyFrom_26 rfl (lv_at hl 1 rfl) ?_
  refine g_second S hK h hk2 q_103 dX5_copyFrom_27 ?_
  refine q_V0 (ci := 0) S hI hK h [.ref (ad L (k2 + 17))] (c_X0_copyFrom l L (dset (up σ (k + 1) [X.1, X.2.1]) (k + 3) (X.2.2 0).1 (X.2.2 0).2.1 (X.2.2 0).2.2.1 (X.2.2 0).2.2.2) (kd5_2 hk) (kd5_2 hk2) (by omega) (hv4.2 1 (by omega))) (kd5_2 hk) rfl (by decide) q_247 q_248 q_249 q_5 q_250 yd_X0_copyFrom rfl ⟨⟨rfl, rfl⟩, ⟨(Nat.le_of_ble_eq_true rfl), (Nat.le_of_ble_eq_true rfl)⟩, Nat.le_refl _, Nat.le_refl _⟩ rfl (Nat.le_of_ble_eq_true rfl) hl.1 dX5_copyFrom_30 (fun H locs h => ?_)
  have hv5 : SV (dx (dx (up σ (k + 1) [X.1, X.2.1]) (k + 3) (X.2.2 0)) (k + 17) (X.2.2 1)) k2 X := hv4.congr (fun j h1 h2 => dset_n (by omega))
  refine lv_aload_n hx hb dX5_copyFrom_33 rfl (lv_at hl 0 rfl) ?_
  refine g_third S hK h hk q_104 dX5_copyFrom_34 ?_
  refine lv_aload_n hx hb dX5_copyFrom_37 rfl (lv_at hl 1 rfl) ?_
  refine g_third S hK h hk2 q_104 dX5_copyFrom_38 ?_
  refine q_V0 (ci := 0) S hI hK h [.ref (ad L (k2 + 31))] (c_X0_copyFrom l L (dset (dset (up σ (k + 1) [X.1, X.2.1]) (k + 3) (X.2.2 0).1 (X.2.2 0).2.1 (X.2.2 0).2.2.1 (X.2.2 0).2.2.2) (k + 17) (X.2.2 1).1 (X.2.2 1).2.1 (X.2.2 1).2.2.1 (X.2.2 1).2.2.2) (kd5_3 hk) (kd5_3 hk2) (by omega) (hv5.2 2 (by omega))) (kd5_3 hk) rfl (by decide) q_247 q_248 q_249 q_5 q_250 yd_X0_copyFrom rfl ⟨⟨rfl, rfl⟩, ⟨(Nat.le_of_ble_eq_true rfl), (Nat.le_of_ble_eq_true rfl)⟩, Nat.le_refl _, Nat.le_refl _⟩ rfl (Nat.le_of_ble_eq_true rfl) hl.1 dX5_copyFrom_41 (fun H locs h => ?_)
  exact e_v S hK h hr hlk dX5_copyFrom_44 hp

abbrev rX2_size : Room := { frames := 0, cells := 0, slots := 0, locals := 0 }
theorem yd_X2_size : ydV yX2_size RX2 0 := ⟨rfl, by decide +kernel, by decide +kernel, by decide +kernel⟩
set_option maxHeartbeats 4000000 in
set_option maxRecDepth 100000 in
theorem c_X2_size (l : Launch) (L : Lay) (σ : St) (n : Int32) (hn : σ 225 = [n]) : Mf l L yX2_size (Cond.code yX2_size cX2_size 1 (some FieldType.int) :: qA) rX2_size [.ref (ad L 225)] σ (some (.int n)) σ := by
  refine Mf.ofW (by decide) (Nat.le_of_ble_eq_true rfl) ?_
  intro p e s m args below meth c ls post hp hI S hr hlk hK h hl
  have hx := S.1
  have hb := S.2.1
  have hok := h.ok
  have hl : lv_has ls 1 [(0, .ref (ad L 225))] := hl
  refine lv_aload_n hx hb dX2_size_0 rfl (lv_at hl 0 rfl) ?_
  refine g_size S hK h (by decide) q_124 dX2_size_1 ?_
  refine cv_i (show ((σ 225).getD 0 0 : Int32) = n from (by rw [hn]; rfl)) ?_
  exact e_i S hK h hr hlk dX2_size_4 hp

abbrev rX2_stateAt : Room := { frames := 0, cells := 0, slots := 0, locals := 0 }
theorem yd_X2_stateAt : ydV yX2_stateAt RX2 1 := ⟨rfl, by decide +kernel, by decide +kernel, by decide +kernel⟩
set_option maxHeartbeats 4000000 in
set_option maxRecDepth 100000 in
theorem c_X2_stateAt (l : Launch) (L : Lay) (σ : St) {i o : Nat} (hi : i < 4) (ho : (σ 226).getD i 0 = nI o) (ho2 : o < 5) : Mf l L yX2_stateAt (Cond.code yX2_stateAt cX2_stateAt 2 (some (FieldType.object "QuantileDigests$State")) :: qA) rX2_stateAt [.ref (ad L 225), .int (nI i)] σ (some (.ref (ad L (45 * o)))) σ := by
  refine Mf.ofW (by decide) (Nat.le_of_ble_eq_true rfl) ?_
  intro p e s m args below meth c ls post hp hI S hr hlk hK h hl
  have hx := S.1
  have hb := S.2.1
  have hok := h.ok
  have hl : lv_has ls 2 [(0, .ref (ad L 225)), (1, .int (nI i))] := hl
  refine lv_iload_n hx hb dX2_stateAt_0 rfl (lv_at hl 1 rfl) ?_
  refine b_if_lt (tgt := 22) hx hb dX2_stateAt_1 (by decide) (by omega) ?_
  refine lv_iload_n hx hb dX2_stateAt_4 rfl (lv_at hl 1 rfl) ?_
  refine lv_aload_n hx hb dX2_stateAt_5 rfl (lv_at hl 0 rfl) ?_
  refine g_states S hK h (by decide) q_123 dX2_stateAt_6 ?_
  refine g_salen S hK h (by decide) dX2_stateAt_9 ?_
  refine b_icmp_ge (tgt := 22) hx hb dX2_stateAt_10 (by decide) (by omega) (by omega) (fun c_10 => absurd c_10 (by omega)) (fun c_10 => ?_)
  refine lv_aload_n hx hb dX2_stateAt_13 rfl (lv_at hl 0 rfl) ?_
  refine g_states S hK h (by decide) q_123 dX2_stateAt_14 ?_
  refine lv_iload_n hx hb dX2_stateAt_17 rfl (lv_at hl 1 rfl) ?_
  refine g_sel (o := o) S hK h (by decide) hi ho ho2 dX2_stateAt_18 ?_
  refine lv_goto (tgt := 23) hx hb dX2_stateAt_19 (by decide) ?_
  exact e_a S hK h hr hlk (Or.inr ⟨_, rfl⟩) dX2_stateAt_23 hp

abbrev rX2_dropOldest : Room := { frames := 0, cells := 0, slots := 0, locals := 0 }
theorem yd_X2_dropOldest : ydV yX2_dropOldest RX2 0 := ⟨rfl, by decide +kernel, by decide +kernel, by decide +kernel⟩
set_option maxHeartbeats 4000000 in
set_option maxRecDepth 100000 in
theorem c_X2_dropOldest (l : Launch) (L : Lay) (σ : St) {a b c1 d1 n : Nat} (ho : σ 226 = [nI a, nI b, nI c1, nI d1]) (ha : a < 5) (hb1 : b < 5) (hc1 : c1 < 5) (hd1 : d1 < 5) (hn : σ 225 = [nI (n + 1)]) : Mf l L yX2_dropOldest (Cond.code yX2_dropOldest cX2_dropOldest 3 none :: qA) rX2_dropOldest [.ref (ad L 225)] σ none (up (up σ 226 [nI b, nI c1, nI d1, nI a]) 225 [nI n]) := by
  refine Mf.ofW (by decide) (Nat.le_of_ble_eq_true rfl) ?_
  intro p e s m args below meth c ls post hp hI S hr hlk hK h hl
  have hx := S.1
  have hb := S.2.1
  have hok := h.ok
  have hl : lv_has ls 3 [(0, .ref (ad L 225))] := hl
  refine lv_iconst (v := (nI 1)) hx hb dX2_dropOldest_0 (by decide) ?_
  refine lv_istore_n (lv' := [(1, .int (nI 1)), (0, .ref (ad L 225))]) hx hb dX2_dropOldest_1 rfl hl (by decide) rfl (fun ls hl => ?_)
  refine lv_iload_n hx hb dX2_dropOldest_2 rfl (lv_at hl 0 rfl) ?_
  refine lv_aload_n hx hb dX2_dropOldest_3 rfl (lv_at hl 1 rfl) ?_
  refine g_states S hK h (by decide) q_123 dX2_dropOldest_4 ?_
  refine g_salen S hK h (by decide) dX2_dropOldest_7 ?_
  refine b_icmp_ge (tgt := 47) hx hb dX2_dropOldest_8 (by decide) (by decide) (by decide) (fun c9 => absurd c9 (by decide)) (fun _ => ?_)
  refine lv_aload_n hx hb dX2_dropOldest_11 rfl (lv_at hl 1 rfl) ?_
  refine g_states S hK h (by decide) q_123 dX2_dropOldest_12 ?_
  refine lv_iload_n hx hb dX2_dropOldest_15 rfl (lv_at hl 0 rfl) ?_
  refine lv_iconst (v := (nI 1)) hx hb dX2_dropOldest_16 (by decide) ?_
  refine a_isub hx hb dX2_dropOldest_17 (by omega) ?_
  refine g_sel (o := a) S hK h (by decide) (by omega) (by rw [ho]; rfl) ha dX2_dropOldest_18 ?_
  refine lv_astore_n (lv' := [(2, .ref (ad L (45 * a))), (1, .int (nI 1)), (0, .ref (ad L 225))]) hx hb dX2_dropOldest_19 rfl hl (by decide) rfl (fun ls hl => ?_)
  refine lv_aload_n hx hb dX2_dropOldest_20 rfl (lv_at hl 2 rfl) ?_
  refine g_states S hK h (by decide) q_123 dX2_dropOldest_21 ?_
  refine lv_iload_n hx hb dX2_dropOldest_24 rfl (lv_at hl 1 rfl) ?_
  refine lv_iconst (v := (nI 1)) hx hb dX2_dropOldest_25 (by decide) ?_
  refine a_isub hx hb dX2_dropOldest_26 (by omega) ?_
  refine lv_aload_n hx hb dX2_dropOldest_27 rfl (lv_at hl 2 rfl) ?_
  refine g_states S hK h (by decide) q_123 dX2_dropOldest_28 ?_
  refine lv_iload_n hx hb dX2_dropOldest_31 rfl (lv_at hl 1 rfl) ?_
  refine g_sel (o := b) S hK h (by decide) (by omega) (by rw [ho]; rfl) hb1 dX2_dropOldest_32 ?_
  refine p_sel (o := b) S hI hK h (by decide) (by omega) (by rw [ho]; rfl) hb1 dX2_dropOldest_33 (fun H locs h => ?_)
  have h := h.to (show up σ 226 ((σ 226).set 0 (nI b)) = up σ 226 [nI b, nI b, nI c1, nI d1] from by rw [ho]; exact rfl)
  refine lv_aload_n hx hb dX2_dropOldest_34 rfl (lv_at hl 2 rfl) ?_
  refine g_states S hK h (by decide) q_123 dX2_dropOldest_35 ?_
  refine lv_iload_n hx hb dX2_dropOldest_38 rfl (lv_at hl 1 rfl) ?_
  refine lv_aload_n hx hb dX2_dropOldest_39 rfl (lv_at hl 0 rfl) ?_
  refine p_sel (o := a) S hI hK h (by decide) (by omega) (by rw [up_s]; rfl) ha dX2_dropOldest_40 (fun H locs h => ?_)
  have h := h.to (show up (up σ 226 [nI b, nI b, nI c1, nI d1]) 226 (((up σ 226 [nI b, nI b, nI c1, nI d1]) 226).set 1 (nI a)) = up σ 226 [nI b, nI a, nI c1, nI d1] from by rw [up_s]; rw [up_up]; exact rfl)
  refine lv_iinc (v := (nI 2)) (lv' := [(1, .int (nI 2)), (2, .ref (ad L (45 * a))), (0, .ref (ad L 225))]) hx hb dX2_dropOldest_41 hl (k := 1) rfl (iinc_k 1 1) (by decide) rfl (fun ls hl => ?_)
  refine lv_goto (tgt := 2) hx hb dX2_dropOldest_44 (by decide) ?_
  refine lv_iload_n hx hb dX2_dropOldest_2 rfl (lv_at hl 0 rfl) ?_
  refine lv_aload_n hx hb dX2_dropOldest_3 rfl (lv_at hl 2 rfl) ?_
  refine g_states S hK h (by decide) q_123 dX2_dropOldest_4 ?_
  refine g_salen S hK h (by decide) dX2_dropOldest_7 ?_
  refine b_icmp_ge (tgt := 47) hx hb dX2_dropOldest_8 (by decide) (by decide) (by decide) (fun c9 => absurd c9 (by decide)) (fun _ => ?_)
  refine lv_aload_n hx hb dX2_dropOldest_11 rfl (lv_at hl 2 rfl) ?_
  refine g_states S hK h (by decide) q_123 dX2_dropOldest_12 ?_
  refine lv_iload_n hx hb dX2_dropOldest_15 rfl (lv_at hl 0 rfl) ?_
  refine lv_iconst (v := (nI 1)) hx hb dX2_dropOldest_16 (by decide) ?_
  refine a_isub hx hb dX2_dropOldest_17 (by omega) ?_
  refine g_sel (o := a) S hK h (by decide) (by omega) (by rw [up_s]; rfl) ha dX2_dropOldest_18 ?_
  refine lv_astore_n (lv' := [(2, .ref (ad L (45 * a))), (1, .int (nI 2)), (0, .ref (ad L 225))]) hx hb dX2_dropOldest_19 rfl hl (by decide) rfl (fun ls hl => ?_)
  refine lv_aload_n hx hb dX2_dropOldest_20 rfl (lv_at hl 2 rfl) ?_
  refine g_states S hK h (by decide) q_123 dX2_dropOldest_21 ?_
  refine lv_iload_n hx hb dX2_dropOldest_24 rfl (lv_at hl 1 rfl) ?_
  refine lv_iconst (v := (nI 1)) hx hb dX2_dropOldest_25 (by decide) ?_
  refine a_isub hx hb dX2_dropOldest_26 (by omega) ?_
  refine lv_aload_n hx hb dX2_dropOldest_27 rfl (lv_at hl 2 rfl) ?_
  refine g_states S hK h (by decide) q_123 dX2_dropOldest_28 ?_
  refine lv_iload_n hx hb dX2_dropOldest_31 rfl (lv_at hl 1 rfl) ?_
  refine g_sel (o := c1) S hK h (by decide) (by omega) (by rw [up_s]; rfl) hc1 dX2_dropOldest_32 ?_
  refine p_sel (o := c1) S hI hK h (by decide) (by omega) (by rw [up_s]; rfl) hc1 dX2_dropOldest_33 (fun H locs h => ?_)
  have h := h.to (show up (up σ 226 [nI b, nI a, nI c1, nI d1]) 226 (((up σ 226 [nI b, nI a, nI c1, nI d1]) 226).set 1 (nI c1)) = up σ 226 [nI b, nI c1, nI c1, nI d1] from by rw [up_s]; rw [up_up]; exact rfl)
  refine lv_aload_n hx hb dX2_dropOldest_34 rfl (lv_at hl 2 rfl) ?_
  refine g_states S hK h (by decide) q_123 dX2_dropOldest_35 ?_
  refine lv_iload_n hx hb dX2_dropOldest_38 rfl (lv_at hl 1 rfl) ?_
  refine lv_aload_n hx hb dX2_dropOldest_39 rfl (lv_at hl 0 rfl) ?_
  refine p_sel (o := a) S hI hK h (by decide) (by omega) (by rw [up_s]; rfl) ha dX2_dropOldest_40 (fun H locs h => ?_)
  have h := h.to (show up (up σ 226 [nI b, nI c1, nI c1, nI d1]) 226 (((up σ 226 [nI b, nI c1, nI c1, nI d1]) 226).set 2 (nI a)) = up σ 226 [nI b, nI c1, nI a, nI d1] from by rw [up_s]; rw [up_up]; exact rfl)
  refine lv_iinc (v := (nI 3)) (lv' := [(1, .int (nI 3)), (2, .ref (ad L (45 * a))), (0, .ref (ad L 225))]) hx hb dX2_dropOldest_41 hl (k := 1) rfl (iinc_k 2 1) (by decide) rfl (fun ls hl => ?_)
  refine lv_goto (tgt := 2) hx hb dX2_dropOldest_44 (by decide) ?_
  refine lv_iload_n hx hb dX2_dropOldest_2 rfl (lv_at hl 0 rfl) ?_
  refine lv_aload_n hx hb dX2_dropOldest_3 rfl (lv_at hl 2 rfl) ?_
  refine g_states S hK h (by decide) q_123 dX2_dropOldest_4 ?_
  refine g_salen S hK h (by decide) dX2_dropOldest_7 ?_
  refine b_icmp_ge (tgt := 47) hx hb dX2_dropOldest_8 (by decide) (by decide) (by decide) (fun c9 => absurd c9 (by decide)) (fun _ => ?_)
  refine lv_aload_n hx hb dX2_dropOldest_11 rfl (lv_at hl 2 rfl) ?_
  refine g_states S hK h (by decide) q_123 dX2_dropOldest_12 ?_
  refine lv_iload_n hx hb dX2_dropOldest_15 rfl (lv_at hl 0 rfl) ?_
  refine lv_iconst (v := (nI 1)) hx hb dX2_dropOldest_16 (by decide) ?_
  refine a_isub hx hb dX2_dropOldest_17 (by omega) ?_
  refine g_sel (o := a) S hK h (by decide) (by omega) (by rw [up_s]; rfl) ha dX2_dropOldest_18 ?_
  refine lv_astore_n (lv' := [(2, .ref (ad L (45 * a))), (1, .int (nI 3)), (0, .ref (ad L 225))]) hx hb dX2_dropOldest_19 rfl hl (by decide) rfl (fun ls hl => ?_)
  refine lv_aload_n hx hb dX2_dropOldest_20 rfl (lv_at hl 2 rfl) ?_
  refine g_states S hK h (by decide) q_123 dX2_dropOldest_21 ?_
  refine lv_iload_n hx hb dX2_dropOldest_24 rfl (lv_at hl 1 rfl) ?_
  refine lv_iconst (v := (nI 1)) hx hb dX2_dropOldest_25 (by decide) ?_
  refine a_isub hx hb dX2_dropOldest_26 (by omega) ?_
  refine lv_aload_n hx hb dX2_dropOldest_27 rfl (lv_at hl 2 rfl) ?_
  refine g_states S hK h (by decide) q_123 dX2_dropOldest_28 ?_
  refine lv_iload_n hx hb dX2_dropOldest_31 rfl (lv_at hl 1 rfl) ?_
  refine g_sel (o := d1) S hK h (by decide) (by omega) (by rw [up_s]; rfl) hd1 dX2_dropOldest_32 ?_
  refine p_sel (o := d1) S hI hK h (by decide) (by omega) (by rw [up_s]; rfl) hd1 dX2_dropOldest_33 (fun H locs h => ?_)
  have h := h.to (show up (up σ 226 [nI b, nI c1, nI a, nI d1]) 226 (((up σ 226 [nI b, nI c1, nI a, nI d1]) 226).set 2 (nI d1)) = up σ 226 [nI b, nI c1, nI d1, nI d1] from by rw [up_s]; rw [up_up]; exact rfl)
  refine lv_aload_n hx hb dX2_dropOldest_34 rfl (lv_at hl 2 rfl) ?_
  refine g_states S hK h (by decide) q_123 dX2_dropOldest_35 ?_
  refine lv_iload_n hx hb dX2_dropOldest_38 rfl (lv_at hl 1 rfl) ?_
  refine lv_aload_n hx hb dX2_dropOldest_39 rfl (lv_at hl 0 rfl) ?_
  refine p_sel (o := a) S hI hK h (by decide) (by omega) (by rw [up_s]; rfl) ha dX2_dropOldest_40 (fun H locs h => ?_)
  have h := h.to (show up (up σ 226 [nI b, nI c1, nI d1, nI d1]) 226 (((up σ 226 [nI b, nI c1, nI d1, nI d1]) 226).set 3 (nI a)) = up σ 226 [nI b, nI c1, nI d1, nI a] from by rw [up_s]; rw [up_up]; exact rfl)
  refine lv_iinc (v := (nI 4)) (lv' := [(1, .int (nI 4)), (2, .ref (ad L (45 * a))), (0, .ref (ad L 225))]) hx hb dX2_dropOldest_41 hl (k := 1) rfl (iinc_k 3 1) (by decide) rfl (fun ls hl => ?_)
  refine lv_goto (tgt := 2) hx hb dX2_dropOldest_44 (by decide) ?_
  refine lv_iload_n hx hb dX2_dropOldest_2 rfl (lv_at hl 0 rfl) ?_
  refine lv_aload_n hx hb dX2_dropOldest_3 rfl (lv_at hl 2 rfl) ?_
  refine g_states S hK h (by decide) q_123 dX2_dropOldest_4 ?_
  refine g_salen S hK h (by decide) dX2_dropOldest_7 ?_
  refine b_icmp_ge (tgt := 47) hx hb dX2_dropOldest_8 (by decide) (by decide) (by decide) (fun _ => ?_) (fun c9 => absurd c9 (by decide))
  refine lv_aload_n hx hb dX2_dropOldest_47 rfl (lv_at hl 2 rfl) ?_
  refine lv_dup hx hb dX2_dropOldest_48 rfl ?_
  refine g_size S hK h (by decide) q_124 dX2_dropOldest_49 ?_
  refine cv_i (show (((up σ 226 [nI b, nI c1, nI d1, nI a]) 225).getD 0 0 : Int32) = nI (n + 1) from (by rw [up_n (by omega), hn]; rfl)) ?_
  refine lv_iconst (v := (nI 1)) hx hb dX2_dropOldest_52 (by decide) ?_
  refine a_isub hx hb dX2_dropOldest_53 (by omega) ?_
  refine cv_i (show (nI ((n + 1) - 1) : Int32) = nI n from (by rw [Nat.add_sub_cancel])) ?_
  refine p_size S hI hK h (by decide) q_124 dX2_dropOldest_54 (fun H locs h => ?_)
  exact e_v S hK h hr hlk dX2_dropOldest_57 hp

abbrev rX2_record : Room := { frames := 5, cells := 0, slots := 0, locals := 144 }
theorem yd_X2_record : ydV yX2_record RX2 1 := ⟨rfl, by decide +kernel, by decide +kernel, by decide +kernel⟩
set_option maxHeartbeats 4000000 in
set_option maxRecDepth 100000 in
theorem c_X2_record (l : Launch) (L : Lay) (σ : St) {X : SS} {hh : List SS} {t : List Int32} (hc : CR σ X hh t) : Mg l L yX2_record (Cond.code yX2_record cX2_record 3 none :: qA) rX2_record [.ref (ad L 225), .ref (ad L 0)] σ (fun r u => r = none ∧ CR u X (recH hh X) t ∧ ∀ j, 227 ≤ j → u j = σ j) := by
  refine Mr_ofW (by decide) (Nat.le_of_ble_eq_true rfl) ?_
  intro p e s m args below meth c ls post hp hI S hr hlk hK h hl
  have hx := S.1
  have hb := S.2.1
  have hok := h.ok
  have hl : lv_has ls 3 [(0, .ref (ad L 225)), (1, .ref (ad L 0))] := hl
  obtain ⟨hX, ⟨O, hO, hs⟩, ht⟩ := hc
  have hs2 := hs
  obtain ⟨h4, hn, h226, hall⟩ := hs
  refine lv_aload_n hx hb dX2_record_0 rfl (lv_at hl 0 rfl) ?_
  refine g_size S hK h (by decide) q_124 dX2_record_1 ?_
  refine cv_i (show ((σ 225).getD 0 0 : Int32) = nI hh.length from (by rw [hn]; rfl)) ?_
  have CT_16 : ∀ (O1 : Nat → Nat) (h1 : List SS) (σ1 : St) (H : Heap) (locs : List Loc) (ls : Array Slot), (OK4 O1) → (HS σ1 O1 h1) → (h1.length < 4) → (SV σ1 0 X) → (σ1 227 = t) → (∀ j, 227 ≤ j → σ1 j = σ j) → (h1 ++ [X] = recH hh X) → Hd L s.heap H σ1 locs → lv_has ls 3 [(0, .ref (ad L 225)), (1, .ref (ad L 0))] → W p l e rX2_record s m args below meth c H locs 0 0 (MQ below (Qg post (bs L) (Aw L)) args s 0 0 (Aw L)) (F0 m 16 ls []) := by
    intro O1 h1 σ1 H locs ls hO1 hs1 hl1 hX1 ht1 hj1 he1 h hl
    have hok := h.ok
    obtain ⟨g4, gn, g226, gall⟩ := id hs1
    have hoo := hO1.1 _ hl1
    have hgo : (σ1 226).getD h1.length 0 = nI (O1 h1.length) := by rw [g226]; exact Ol_get hl1
    refine lv_aload_n hx hb dX2_record_16 rfl (lv_at hl 0 rfl) ?_
    refine lv_aload_n hx hb dX2_record_17 rfl (lv_at hl 0 rfl) ?_
    refine g_size S hK h (by decide) q_124 dX2_record_18 ?_
    refine cv_i (show ((σ1 225).getD 0 0 : Int32) = nI h1.length from (by rw [gn]; rfl)) ?_
    refine q_V1 (ci := 2) S hI hK h [.int (nI h1.length)] (c_X2_stateAt l L σ1 hl1 hgo (show O1 h1.length < 5 from by omega)) (by decide) rfl (by decide) q_229 q_231 qs_1 q_7 q_232 yd_X2_stateAt rfl ⟨⟨rfl, rfl⟩, ⟨(Nat.le_of_ble_eq_true rfl), (Nat.le_of_ble_eq_true rfl)⟩, Nat.le_refl _, Nat.le_refl _⟩ rfl (Nat.le_of_ble_eq_true rfl) hl.1 dX2_record_21 (fun H locs h => ?_)
    refine lv_astore_n (lv' := [(2, .ref (ad L (45 * (O1 h1.length)))), (0, .ref (ad L 225)), (1, .ref (ad L 0))]) hx hb dX2_record_24 rfl hl (by decide) rfl (fun ls hl => ?_)
    refine lv_aload_n hx hb dX2_record_25 rfl (lv_at hl 0 rfl) ?_
    refine lv_ifnull hx hb dX2_record_26 ?_
    refine lv_aload_n hx hb dX2_record_29 rfl (lv_at hl 0 rfl) ?_
    refine lv_aload_n hx hb dX2_record_30 rfl (lv_at hl 2 rfl) ?_
    refine q_V0 (ci := 5) S hI hK h [.ref (ad L 0)] (c_X5_copyFrom l L σ1 (kd45 (show O1 h1.length < 5 from by omega)) (by decide) (by omega) hX1) (kd45 (show O1 h1.length < 5 from by omega)) rfl (by decide) q_233 q_234 q_235 q_2 q_236 yd_X5_copyFrom rfl ⟨⟨rfl, rfl⟩, ⟨(Nat.le_of_ble_eq_true rfl), (Nat.le_of_ble_eq_true rfl)⟩, Nat.le_refl _, Nat.le_refl _⟩ rfl (Nat.le_of_ble_eq_true rfl) hl.1 dX2_record_31 (fun H locs h => ?_)
    refine lv_aload_n hx hb dX2_record_34 rfl (lv_at hl 1 rfl) ?_
    refine lv_dup hx hb dX2_record_35 rfl ?_
    refine g_size S hK h (by decide) q_124 dX2_record_36 ?_
    refine cv_i (show (((sset σ1 (45 * (O1 h1.length)) X) 225).getD 0 0 : Int32) = nI h1.length from (by rw [sset_n (by omega), gn]; rfl)) ?_
    refine lv_iconst (v := (nI 1)) hx hb dX2_record_39 (by decide) ?_
    refine a_iadd hx hb dX2_record_40 ?_
    refine p_size S hI hK h (by decide) q_124 dX2_record_41 (fun H locs h => ?_)
    exact e_v S hK h hr hlk dX2_record_44 (hp _ _ ⟨rfl, by rw [← he1]; exact ⟨hX1.congr (fun j h1 h2 => by rw [up_n (by omega), sset_n (by omega)]), ⟨O1, hO1, HS_push hO1 hs1 hl1⟩, by rw [up_n (by omega), sset_n (by omega)]; exact ht1⟩, fun j hj => by rw [up_n (by omega), sset_n (by omega)]; exact hj1 j hj⟩)
  refine lv_aload_n hx hb dX2_record_4 rfl (lv_at hl 0 rfl) ?_
  refine g_states S hK h (by decide) q_123 dX2_record_5 ?_
  refine g_salen S hK h (by decide) dX2_record_8 ?_
  refine b_icmp_lt (tgt := 16) hx hb dX2_record_9 (by decide) (by omega) (by omega) (fun c_9 => ?_) (fun c_9 => ?_)
  · exact CT_16 O hh σ _ _ _ hO hs2 c_9 hX ht (fun _ _ => rfl) (by rw [recH, if_pos c_9]) h (lv_sub hl [0, 1] rfl)
  · have e4 : hh.length = 4 := by omega
    refine lv_aload_n hx hb dX2_record_12 rfl (lv_at hl 0 rfl) ?_
    refine q_V0 (ci := 2) S hI hK h [] (c_X2_dropOldest l L σ h226 (by have := (hO.1 0 (by omega)).2; omega) (by have := (hO.1 1 (by omega)).2; omega) (by have := (hO.1 2 (by omega)).2; omega) (by have := (hO.1 3 (by omega)).2; omega) (show σ 225 = [nI (3 + 1)] from by rw [hn, e4])) (by decide) rfl (by decide) q_225 q_227 qs_0 q_7 q_228 yd_X2_dropOldest rfl ⟨⟨rfl, rfl⟩, ⟨(Nat.le_of_ble_eq_true rfl), (Nat.le_of_ble_eq_true rfl)⟩, Nat.le_refl _, Nat.le_refl _⟩ rfl (Nat.le_of_ble_eq_true rfl) hl.1 dX2_record_13 (fun H locs h => ?_)
    exact CT_16 (rot O) hh.tail (up (up σ 226 (Ol (rot O))) 225 [nI 3]) _ _ _ (rot_OK hO) (HS_drop hO hs2 e4) (by rw [List.length_tail]; omega) (hX.congr (fun j h1 h2 => by rw [up_n (by omega), up_n (by omega)])) (by rw [up_n (by omega), up_n (by omega)]; exact ht) (fun j hj => by rw [up_n (by omega), up_n (by omega)]) (by rw [recH, if_neg (by omega)]) h (lv_sub hl [0, 1] rfl)

abbrev rX2_restoreLatest : Room := { frames := 5, cells := 0, slots := 0, locals := 144 }

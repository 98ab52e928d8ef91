abbrev rX6_find : Room := { frames := 5, cells := 0, slots := 0, locals := 114 }
abbrev rX7_isWithin : Room := { frames := 0, cells := 0, slots := 0, locals := 0 }
theorem yd_X7_isWithin : ydV yX7_isWithin RX7 3 := ⟨rfl, by decide +kernel, by decide +kernel, by decide +kernel⟩
set_option maxHeartbeats 4000000 in
set_option maxRecDepth 100000 in
theorem c_X7_isWithin (l : Launch) (L : Lay) (σ : St) (x lo hi : Int32) : Mf l L yX7_isWithin (Cond.code yX7_isWithin cX7_isWithin 3 (some FieldType.boolean) :: qA) rX7_isWithin [.int x, .int lo, .int hi] σ (some (.int (if lo ≤ x ∧ x ≤ hi then 1 else 0))) σ := by
  refine Mf.ofW (by decide) (Nat.le_of_ble_eq_true rfl) ?_
  intro p e s m args below meth c ls post hp hI S hr hlk hK h hl
  have hx := S.1
  have hb := S.2.1
  have hok := h.ok
  have hl : lv_has ls 3 [(0, .int x), (1, .int lo), (2, .int hi)] := hl
  refine lv_iload_n hx hb dX7_isWithin_0 rfl (lv_at hl 0 rfl) ?_
  refine lv_iload_n hx hb dX7_isWithin_1 rfl (lv_at hl 1 rfl) ?_
  refine lv_icmp_lt (tgt := 14) hx hb dX7_isWithin_2 (by decide) (fun c_2 => ?_) (fun c_2 => ?_)
  · rw [if_neg (fun q => Int32.not_le.mpr c_2 q.1)] at hp
    refine lv_iconst (v := (nI 0)) hx hb dX7_isWithin_14 (by decide) ?_
    exact e_z S hK h hr hlk (Or.inl rfl) dX7_isWithin_15 hp
  · refine lv_iload_n hx hb dX7_isWithin_5 rfl (lv_at hl 0 rfl) ?_
    refine lv_iload_n hx hb dX7_isWithin_6 rfl (lv_at hl 2 rfl) ?_
    refine lv_icmp_gt (tgt := 14) hx hb dX7_isWithin_7 (by decide) (fun c_7 => ?_) (fun c_7 => ?_)
    · rw [if_neg (fun q => Int32.not_le.mpr c_7 q.2)] at hp
      refine lv_iconst (v := (nI 0)) hx hb dX7_isWithin_14 (by decide) ?_
      exact e_z S hK h hr hlk (Or.inl rfl) dX7_isWithin_15 hp
    · rw [if_pos ⟨Int32.not_lt.mp c_2, Int32.not_lt.mp c_7⟩] at hp
      refine lv_iconst (v := (nI 1)) hx hb dX7_isWithin_10 (by decide) ?_
      refine lv_goto (tgt := 15) hx hb dX7_isWithin_11 (by decide) ?_
      exact e_z S hK h hr hlk (Or.inr rfl) dX7_isWithin_15 hp

abbrev rX7_highestSetting : Room := { frames := 0, cells := 0, slots := 0, locals := 0 }
theorem yd_X7_highestSetting : ydV yX7_highestSetting RX7 1 := ⟨rfl, by decide +kernel, by decide +kernel, by decide +kernel⟩
set_option maxHeartbeats 4000000 in
set_option maxRecDepth 100000 in
theorem c_X7_highestSetting (l : Launch) (L : Lay) (σ : St) (w : Int32) : Mf l L yX7_highestSetting (Cond.code yX7_highestSetting cX7_highestSetting 1 (some FieldType.int) :: qA) rX7_highestSetting [.int w] σ (some (.int (if w = 0 then nI 60 else nI 20))) σ := by
  refine Mf.ofW (by decide) (Nat.le_of_ble_eq_true rfl) ?_
  intro p e s m args below meth c ls post hp hI S hr hlk hK h hl
  have hx := S.1
  have hb := S.2.1
  have hok := h.ok
  have hl : lv_has ls 1 [(0, .int w)] := hl
  refine lv_iload_n hx hb dX7_highestSetting_0 rfl (lv_at hl 0 rfl) ?_
  refine lv_if_ne (tgt := 9) hx hb dX7_highestSetting_1 (by decide) (fun c_1 => ?_) (fun c_1 => ?_)
  · rw [if_neg c_1] at hp
    refine lv_bipush (v := (nI 20)) hx hb dX7_highestSetting_9 (by decide) ?_
    exact e_i S hK h hr hlk dX7_highestSetting_11 hp
  · rw [if_pos c_1] at hp
    refine lv_bipush (v := (nI 60)) hx hb dX7_highestSetting_4 (by decide) ?_
    refine lv_goto (tgt := 11) hx hb dX7_highestSetting_6 (by decide) ?_
    exact e_i S hK h hr hlk dX7_highestSetting_11 hp

abbrev rX7_packOnTrial : Room := { frames := 4, cells := 0, slots := 0, locals := 102 }
theorem yd_X7_packOnTrial : ydV yX7_packOnTrial RX7 1 := ⟨rfl, by decide +kernel, by decide +kernel, by decide +kernel⟩
set_option maxHeartbeats 4000000 in
set_option maxRecDepth 100000 in
theorem c_X7_packOnTrial (l : Launch) (L : Lay) (σ : St) {X : SS} {i : Nat} (hi : i < 3) (hst : σ 1 = [X.1, X.2.1]) (hD : DX σ (3 + 14 * i) (X.2.2 i)) (hlen : (X.2.2 i).1.length + (X.2.2 i).2.1.length ≤ 200) : Mf l L yX7_packOnTrial (Cond.code yX7_packOnTrial cX7_packOnTrial 2 none :: qA) rX7_packOnTrial [.ref (ad L 244), .ref (ad L (3 + 14 * i))] σ none (hset σ 235 (trL X i)) := by
  refine Mf.ofW (by decide) (Nat.le_of_ble_eq_true rfl) ?_
  intro p e s m args below meth c ls post hp hI S hr hlk hK h hl
  have hx := S.1
  have hb := S.2.1
  have hok := h.ok
  have hl : lv_has ls 2 [(0, .ref (ad L 244)), (1, .ref (ad L (3 + 14 * i)))] := hl
  have hap : (3 + 14 * i) + 14 ≤ 235 := by omega
  refine lv_aload_n hx hb dX7_packOnTrial_0 rfl (lv_at hl 0 rfl) ?_
  refine g_main S hK h (by decide) 5 235 (by decide) rfl rfl q_178 dX7_packOnTrial_1 ?_
  refine lv_aload_n hx hb dX7_packOnTrial_4 rfl (lv_at hl 1 rfl) ?_
  refine g_heaps S hK h (kd314 hi) q_80 dX7_packOnTrial_5 ?_
  refine q_V0 (ci := 1) S hI hK h [.ref (ad L (3 + 14 * i + 1))] (c_X1_copyFrom l L σ (by decide) (kd0_heaps (kd314 hi)) (by omega) hD.1) (by decide) rfl (by decide) q_478 q_252 q_253 q_6 q_254 yd_X1_copyFrom rfl ⟨⟨rfl, rfl⟩, ⟨(Nat.le_of_ble_eq_true rfl), (Nat.le_of_ble_eq_true rfl)⟩, Nat.le_refl _, Nat.le_refl _⟩ rfl (Nat.le_of_ble_eq_true rfl) hl.1 dX7_packOnTrial_8 (fun H locs h => ?_)
  obtain ⟨σ1, e_σ1⟩ : ∃ z : St, z = hset σ 235 (X.2.2 i).1 := ⟨_, rfl⟩
  have h := h.to e_σ1.symm
  have hb1 : σ1 (3 + 14 * i + 10) = (X.2.2 i).2.1 := by rw [e_σ1, hset_n (by omega) (by omega) (by omega) (by omega)]; exact hD.2.1
  have hv1 : HV σ1 235 (X.2.2 i).1 := by rw [e_σ1]; exact HV.hset
  refine lv_aload_n hx hb dX7_packOnTrial_11 rfl (lv_at hl 0 rfl) ?_
  refine g_main S hK h (by decide) 5 235 (by decide) rfl rfl q_178 dX7_packOnTrial_12 ?_
  refine lv_aload_n hx hb dX7_packOnTrial_15 rfl (lv_at hl 1 rfl) ?_
  refine g_buffer S hK h (kd314 hi) q_83 dX7_packOnTrial_16 ?_
  refine q_V0 (ci := 1) S hI hK h [.ref (ad L (3 + 14 * i + 10))] (c_X1_appendEach l L σ1 (by decide) (kd0_buf (kd314 hi)) (by omega) (by omega) (by omega) (by omega) hv1 (by rw [hb1]; exact hlen)) (by decide) rfl (by decide) q_479 q_267 q_268 q_6 q_269 yd_X1_appendEach rfl ⟨⟨rfl, rfl⟩, ⟨(Nat.le_of_ble_eq_true rfl), (Nat.le_of_ble_eq_true rfl)⟩, Nat.le_refl _, Nat.le_refl _⟩ rfl (Nat.le_of_ble_eq_true rfl) hl.1 dX7_packOnTrial_19 (fun H locs h => ?_)
  have h := h.to (show hset σ1 235 (((X.2.2 i).1) ++ (σ1 (3 + 14 * i + 10)).map hunit) = hset σ 235 ((X.2.2 i).1 ++ (X.2.2 i).2.1.map hunit) from (by rw [hb1, e_σ1, hset_hset]))
  refine lv_aload_n hx hb dX7_packOnTrial_22 rfl (lv_at hl 0 rfl) ?_
  refine g_main S hK h (by decide) 5 235 (by decide) rfl rfl q_178 dX7_packOnTrial_23 ?_
  refine lv_aload_n hx hb dX7_packOnTrial_26 rfl (lv_at hl 0 rfl) ?_
  refine g_main S hK h (by decide) 0 0 (by decide) rfl rfl q_173 dX7_packOnTrial_27 ?_
  refine g_settings S hK h (by decide) q_101 dX7_packOnTrial_30 ?_
  refine lv_iconst (v := (nI 0)) hx hb dX7_packOnTrial_33 (by decide) ?_
  refine q_V1 (ci := 4) S hI hK h [.int (nI 0)] (c_X4_at l L (hset σ 235 ((X.2.2 i).1 ++ (X.2.2 i).2.1.map hunit)) (by decide) (by omega)) (by decide) rfl (by decide) q_338 q_213 q_214 q_3 q_215 yd_X4_at rfl ⟨⟨rfl, rfl⟩, ⟨(Nat.le_of_ble_eq_true rfl), (Nat.le_of_ble_eq_true rfl)⟩, Nat.le_refl _, Nat.le_refl _⟩ rfl (Nat.le_of_ble_eq_true rfl) hl.1 dX7_packOnTrial_34 (fun H locs h => ?_)
  refine cv_i (show (((hset σ 235 ((X.2.2 i).1 ++ (X.2.2 i).2.1.map hunit)) 1).getD 0 0 : Int32) = X.1 from (by rw [hset_n (by omega) (by omega) (by omega) (by omega), hst]; rfl)) ?_
  refine q_V0 (ci := 1) S hI hK h [.int X.1] (c_X1_packBy l L (hset σ 235 ((X.2.2 i).1 ++ (X.2.2 i).2.1.map hunit)) (by decide) HV.hset  X.1) (by decide) rfl (by decide) q_480 q_278 q_279 q_6 q_280 yd_X1_packBy rfl ⟨⟨rfl, rfl⟩, ⟨(Nat.le_of_ble_eq_true rfl), (Nat.le_of_ble_eq_true rfl)⟩, Nat.le_refl _, Nat.le_refl _⟩ rfl (Nat.le_of_ble_eq_true rfl) hl.1 dX7_packOnTrial_37 (fun H locs h => ?_)
  exact e_v S hK h hr hlk dX7_packOnTrial_40 (fin_p hp rfl hset_hset)

theorem rcv_b {n : Nat} {s1 : Int32} (h : nI n < s1) (h2 : s1 ≤ 20) (h3 : n ≤ 20) : n < 20 := by
  have a := Int32.lt_iff_toInt_lt.mp h
  have b := Int32.le_iff_toInt_le.mp h2
  rw [nI_toInt (by omega)] at a
  rw [show (20 : Int32).toInt = 20 from by decide] at b
  omega
abbrev rX7_trueIndex : Room := { frames := 0, cells := 0, slots := 0, locals := 0 }
theorem yd_X7_trueIndex : ydV yX7_trueIndex RX7 2 := ⟨rfl, by decide +kernel, by decide +kernel, by decide +kernel⟩
set_option maxHeartbeats 4000000 in
set_option maxRecDepth 100000 in
theorem c_X7_trueIndex (l : Launch) (L : Lay) (σ : St) (q w : Nat) (hq : q ≤ 1000) (h1 : 1 ≤ w) (hw : w ≤ 200) : Mf l L yX7_trueIndex (Cond.code yX7_trueIndex cX7_trueIndex 2 (some FieldType.int) :: qA) rX7_trueIndex [.int (nI q), .int (nI w)] σ (some (.int (nI (q * (w - 1) / 1000)))) σ := by
  refine Mf.ofW (by decide) (Nat.le_of_ble_eq_true rfl) ?_
  intro p e s m args below meth c ls post hp hI S hr hlk hK h hl
  have hx := S.1
  have hb := S.2.1
  have hok := h.ok
  have hl : lv_has ls 2 [(0, .int (nI q)), (1, .int (nI w))] := hl
  have hm : q * (w - 1) ≤ 1000 * 199 := Nat.mul_le_mul hq (by omega)
  refine lv_iload_n hx hb dX7_trueIndex_0 rfl (lv_at hl 0 rfl) ?_
  refine lv_iload_n hx hb dX7_trueIndex_1 rfl (lv_at hl 1 rfl) ?_
  refine lv_iconst (v := (nI 1)) hx hb dX7_trueIndex_2 (by decide) ?_
  refine a_isub hx hb dX7_trueIndex_3 (by omega) ?_
  refine a_imul hx hb dX7_trueIndex_4 ?_
  refine lv_sipush (v := (nI 1000)) hx hb dX7_trueIndex_5 (by decide) ?_
  refine a_idiv hx hb dX7_trueIndex_8 (by omega) (by omega) (by omega) ?_
  exact e_i S hK h hr hlk dX7_trueIndex_9 hp

abbrev rX0_weight : Room := { frames := 2, cells := 0, slots := 0, locals := 43 }
theorem yd_X0_weight : ydV yX0_weight RX0 0 := ⟨rfl, by decide +kernel, by decide +kernel, by decide +kernel⟩
set_option maxHeartbeats 4000000 in
set_option maxRecDepth 100000 in
theorem c_X0_weight (l : Launch) (L : Lay) (σ : St) {d : Nat} {A : List Hp} {B V : List Int32} {p0 : Int32} (hk : kd d = 0) (hv : DV σ d A B V p0) : Mf l L yX0_weight (Cond.code yX0_weight cX0_weight 1 (some FieldType.int) :: qA) rX0_weight [.ref (ad L d)] σ (some (.int (dW A B))) σ := by
  refine Mf.ofW (by decide) (Nat.le_of_ble_eq_true rfl) ?_
  intro p e s m args below meth c ls post hp hI S hr hlk hK h hl
  have hx := S.1
  have hb := S.2.1
  have hok := h.ok
  have hl : lv_has ls 1 [(0, .ref (ad L d))] := hl
  obtain ⟨hvh, eb, ev, ep⟩ := id hv
  refine lv_aload_n hx hb dX0_weight_0 rfl (lv_at hl 0 rfl) ?_
  refine g_heaps S hK h hk q_79 dX0_weight_1 ?_
  refine g_weights S hK h (kd0_heaps hk) q_57 dX0_weight_4 ?_
  refine q_V1 (ci := 4) S hI hK h [] (c_X4_total l L σ (kd1_1 (kd0_heaps hk))) (kd1_1 (kd0_heaps hk)) rfl (by decide) q_208 q_209 q_210 q_3 q_211 yd_X4_total rfl ⟨⟨rfl, rfl⟩, ⟨(Nat.le_of_ble_eq_true rfl), (Nat.le_of_ble_eq_true rfl)⟩, Nat.le_refl _, Nat.le_refl _⟩ rfl (Nat.le_of_ble_eq_true rfl) hl.1 dX0_weight_7 (fun H locs h => ?_)
  refine cv_i (show (isum (σ (d + 1 + 1)) (σ (d + 1 + 1)).length : Int32) = wTot A from hvh.tot) ?_
  refine lv_aload_n hx hb dX0_weight_10 rfl (lv_at hl 0 rfl) ?_
  refine g_buffer S hK h hk q_82 dX0_weight_11 ?_
  refine q_V1 (ci := 4) S hI hK h [] (c_X4_length l L σ (kd0_buf hk)) (kd0_buf hk) rfl (by decide) q_216 q_217 q_218 q_3 q_219 yd_X4_length rfl ⟨⟨rfl, rfl⟩, ⟨(Nat.le_of_ble_eq_true rfl), (Nat.le_of_ble_eq_true rfl)⟩, Nat.le_refl _, Nat.le_refl _⟩ rfl (Nat.le_of_ble_eq_true rfl) hl.1 dX0_weight_14 (fun H locs h => ?_)
  refine cv_i (show (nI ((σ (d + 10)).length) : Int32) = nI B.length from (by rw [eb])) ?_
  refine lv_iadd hx hb dX0_weight_17 ?_
  exact e_i S hK h hr hlk dX0_weight_18 hp

abbrev rX0_sum : Room := { frames := 2, cells := 0, slots := 0, locals := 43 }
theorem yd_X0_sum : ydV yX0_sum RX0 0 := ⟨rfl, by decide +kernel, by decide +kernel, by decide +kernel⟩
set_option maxHeartbeats 4000000 in
set_option maxRecDepth 100000 in
theorem c_X0_sum (l : Launch) (L : Lay) (σ : St) {d : Nat} {A : List Hp} {B V : List Int32} {p0 : Int32} (hk : kd d = 0) (hv : DV σ d A B V p0) : Mf l L yX0_sum (Cond.code yX0_sum cX0_sum 1 (some FieldType.int) :: qA) rX0_sum [.ref (ad L d)] σ (some (.int (dSum A B))) σ := by
  refine Mf.ofW (by decide) (Nat.le_of_ble_eq_true rfl) ?_
  intro p e s m args below meth c ls post hp hI S hr hlk hK h hl
  have hx := S.1
  have hb := S.2.1
  have hok := h.ok
  have hl : lv_has ls 1 [(0, .ref (ad L d))] := hl
  obtain ⟨hvh, eb, ev, ep⟩ := id hv
  refine lv_aload_n hx hb dX0_sum_0 rfl (lv_at hl 0 rfl) ?_
  refine g_heaps S hK h hk q_79 dX0_sum_1 ?_
  refine g_sums S hK h (kd0_heaps hk) q_60 dX0_sum_4 ?_
  refine q_V1 (ci := 4) S hI hK h [] (c_X4_total l L σ (kd1_3 (kd0_heaps hk))) (kd1_3 (kd0_heaps hk)) rfl (by decide) q_208 q_209 q_210 q_3 q_211 yd_X4_total rfl ⟨⟨rfl, rfl⟩, ⟨(Nat.le_of_ble_eq_true rfl), (Nat.le_of_ble_eq_true rfl)⟩, Nat.le_refl _, Nat.le_refl _⟩ rfl (Nat.le_of_ble_eq_true rfl) hl.1 dX0_sum_7 (fun H locs h => ?_)
  refine cv_i (show (isum (σ (d + 1 + 3)) (σ (d + 1 + 3)).length : Int32) = isum (A.map h_s) A.length from (by rw [hvh.2.1, List.length_map])) ?_
  refine lv_aload_n hx hb dX0_sum_10 rfl (lv_at hl 0 rfl) ?_
  refine g_buffer S hK h hk q_82 dX0_sum_11 ?_
  refine q_V1 (ci := 4) S hI hK h [] (c_X4_total l L σ (kd0_buf hk)) (kd0_buf hk) rfl (by decide) q_208 q_209 q_210 q_3 q_211 yd_X4_total rfl ⟨⟨rfl, rfl⟩, ⟨(Nat.le_of_ble_eq_true rfl), (Nat.le_of_ble_eq_true rfl)⟩, Nat.le_refl _, Nat.le_refl _⟩ rfl (Nat.le_of_ble_eq_true rfl) hl.1 dX0_sum_14 (fun H locs h => ?_)
  refine cv_i (show (isum (σ (d + 10)) (σ (d + 10)).length : Int32) = isum B B.length from (by rw [eb])) ?_
  refine lv_iadd hx hb dX0_sum_17 ?_
  exact e_i S hK h hr hlk dX0_sum_18 hp

abbrev rX0_least : Room := { frames := 2, cells := 0, slots := 0, locals := 43 }
theorem yd_X0_least : ydV yX0_least RX0 0 := ⟨rfl, by decide +kernel, by decide +kernel, by decide +kernel⟩
set_option maxHeartbeats 4000000 in
set_option maxRecDepth 100000 in
theorem c_X0_least (l : Launch) (L : Lay) (σ : St) {d : Nat} {A : List Hp} {B V : List Int32} {p0 : Int32} (hk : kd d = 0) (hv : DV σ d A B V p0) : Mf l L yX0_least (Cond.code yX0_least cX0_least 1 (some FieldType.int) :: qA) rX0_least [.ref (ad L d)] σ (some (.int (dLeast A B))) σ := by
  refine Mf.ofW (by decide) (Nat.le_of_ble_eq_true rfl) ?_
  intro p e s m args below meth c ls post hp hI S hr hlk hK h hl
  have hx := S.1
  have hb := S.2.1
  have hok := h.ok
  have hl : lv_has ls 1 [(0, .ref (ad L d))] := hl
  obtain ⟨hvh, eb, ev, ep⟩ := id hv
  refine lv_aload_n hx hb dX0_least_0 rfl (lv_at hl 0 rfl) ?_
  refine g_heaps S hK h hk q_79 dX0_least_1 ?_
  refine g_leasts S hK h (kd0_heaps hk) q_63 dX0_least_4 ?_
  refine q_V1 (ci := 4) S hI hK h [] (c_X4_least l L σ (kd1_5 (kd0_heaps hk))) (kd1_5 (kd0_heaps hk)) rfl (by decide) q_454 q_455 q_456 q_3 q_457 yd_X4_least rfl ⟨⟨rfl, rfl⟩, ⟨(Nat.le_of_ble_eq_true rfl), (Nat.le_of_ble_eq_true rfl)⟩, Nat.le_refl _, Nat.le_refl _⟩ rfl (Nat.le_of_ble_eq_true rfl) hl.1 dX0_least_7 (fun H locs h => ?_)
  refine cv_i (show (imin (σ (d + 1 + 5)) (σ (d + 1 + 5)).length : Int32) = imin (A.map h_l) A.length from (by rw [hvh.2.2.1, List.length_map])) ?_
  refine lv_aload_n hx hb dX0_least_10 rfl (lv_at hl 0 rfl) ?_
  refine g_buffer S hK h hk q_82 dX0_least_11 ?_
  refine q_V1 (ci := 4) S hI hK h [] (c_X4_least l L σ (kd0_buf hk)) (kd0_buf hk) rfl (by decide) q_454 q_455 q_456 q_3 q_457 yd_X4_least rfl ⟨⟨rfl, rfl⟩, ⟨(Nat.le_of_ble_eq_true rfl), (Nat.le_of_ble_eq_true rfl)⟩, Nat.le_refl _, Nat.le_refl _⟩ rfl (Nat.le_of_ble_eq_true rfl) hl.1 dX0_least_14 (fun H locs h => ?_)
  refine cv_i (show (imin (σ (d + 10)) (σ (d + 10)).length : Int32) = imin B B.length from (by rw [eb])) ?_
  refine va_mmin hx hb (S.2.2.1.trans hl.1.symm) S.2.2.2.1 (S.2.2.2.2 _ q_459) (S.2.2.2.2 _ q_242) (S.2.2.2.2 _ q_4) (S.2.2.2.2 _ q_243) (Nat.le_of_ble_eq_true rfl) (Nat.le_of_ble_eq_true rfl) (Nat.zero_le _) (Nat.zero_le _) dX0_least_17 ?_
  exact e_i S hK h hr hlk dX0_least_20 hp

abbrev rX0_greatest : Room := { frames := 2, cells := 0, slots := 0, locals := 43 }
theorem yd_X0_greatest : ydV yX0_greatest RX0 0 := ⟨rfl, by decide +kernel, by decide +kernel, by decide +kernel⟩
set_option maxHeartbeats 4000000 in
set_option maxRecDepth 100000 in
theorem c_X0_greatest (l : Launch) (L : Lay) (σ : St) {d : Nat} {A : List Hp} {B V : List Int32} {p0 : Int32} (hk : kd d = 0) (hv : DV σ d A B V p0) : Mf l L yX0_greatest (Cond.code yX0_greatest cX0_greatest 1 (some FieldType.int) :: qA) rX0_greatest [.ref (ad L d)] σ (some (.int (dGreatest A B))) σ := by
  refine Mf.ofW (by decide) (Nat.le_of_ble_eq_true rfl) ?_
  intro p e s m args below meth c ls post hp hI S hr hlk hK h hl
  have hx := S.1
  have hb := S.2.1
  have hok := h.ok
  have hl : lv_has ls 1 [(0, .ref (ad L d))] := hl
  obtain ⟨hvh, eb, ev, ep⟩ := id hv
  refine lv_aload_n hx hb dX0_greatest_0 rfl (lv_at hl 0 rfl) ?_
  refine g_heaps S hK h hk q_79 dX0_greatest_1 ?_
  refine g_greatests S hK h (kd0_heaps hk) q_66 dX0_greatest_4 ?_
  refine q_V1 (ci := 4) S hI hK h [] (c_X4_greatest l L σ (kd1_7 (kd0_heaps hk))) (kd1_7 (kd0_heaps hk)) rfl (by decide) q_464 q_465 q_466 q_3 q_467 yd_X4_greatest rfl ⟨⟨rfl, rfl⟩, ⟨(Nat.le_of_ble_eq_true rfl), (Nat.le_of_ble_eq_true rfl)⟩, Nat.le_refl _, Nat.le_refl _⟩ rfl (Nat.le_of_ble_eq_true rfl) hl.1 dX0_greatest_7 (fun H locs h => ?_)
  refine cv_i (show (imax (σ (d + 1 + 7)) (σ (d + 1 + 7)).length : Int32) = imax (A.map h_g) A.length from (by rw [hvh.2.2.2, List.length_map])) ?_
  refine lv_aload_n hx hb dX0_greatest_10 rfl (lv_at hl 0 rfl) ?_
  refine g_buffer S hK h hk q_82 dX0_greatest_11 ?_
  refine q_V1 (ci := 4) S hI hK h [] (c_X4_greatest l L σ (kd0_buf hk)) (kd0_buf hk) rfl (by decide) q_464 q_465 q_466 q_3 q_467 yd_X4_greatest rfl ⟨⟨rfl, rfl⟩, ⟨(Nat.le_of_ble_eq_true rfl), (Nat.le_of_ble_eq_true rfl)⟩, Nat.le_refl _, Nat.le_refl _⟩ rfl (Nat.le_of_ble_eq_true rfl) hl.1 dX0_greatest_14 (fun H locs h => ?_)
  refine cv_i (show (imax (σ (d + 10)) (σ (d + 10)).length : Int32) = imax B B.length from (by rw [eb])) ?_
  refine va_mmax hx hb (S.2.2.1.trans hl.1.symm) S.2.2.2.1 (S.2.2.2.2 _ q_469) (S.2.2.2.2 _ q_32) (S.2.2.2.2 _ q_4) (S.2.2.2.2 _ q_33) (Nat.le_of_ble_eq_true rfl) (Nat.le_of_ble_eq_true rfl) (Nat.zero_le _) (Nat.zero_le _) dX0_greatest_17 ?_
  exact e_i S hK h hr hlk dX0_greatest_20 hp

abbrev rX0_trueQuantileAt : Room := { frames := 1, cells := 0, slots := 0, locals := 21 }
theorem yd_X0_trueQuantileAt : ydV yX0_trueQuantileAt RX0 1 := ⟨rfl, by decide +kernel, by decide +kernel, by decide +kernel⟩
set_option maxHeartbeats 4000000 in
set_option maxRecDepth 100000 in
theorem c_X0_trueQuantileAt (l : Launch) (L : Lay) (σ : St) {d : Nat} {A : List Hp} {B V : List Int32} {p0 : Int32} (hk : kd d = 0) (hv : DV σ d A B V p0) {q : Nat} (hq : q ≤ 1000) (h1 : 1 ≤ V.length) : Mf l L yX0_trueQuantileAt (Cond.code yX0_trueQuantileAt cX0_trueQuantileAt 2 (some FieldType.int) :: qA) rX0_trueQuantileAt [.ref (ad L d), .int (nI q)] σ (some (.int (V.getD (q * (V.length - 1) / 1000) 0))) σ := by
  refine Mf.ofW (by decide) (Nat.le_of_ble_eq_true rfl) ?_
  intro p e s m args below meth c ls post hp hI S hr hlk hK h hl
  have hx := S.1
  have hb := S.2.1
  have hok := h.ok
  have hl : lv_has ls 2 [(0, .ref (ad L d)), (1, .int (nI q))] := hl
  obtain ⟨hvh, eb, ev, ep⟩ := id hv
  have hA := hvh.le hok (kd0_heaps hk)
  have hB20 : B.length ≤ 20 := by have := hok _ (kd0_buf hk); rw [eb, (kd_0h d (kd_of hk) hk).2.2.2.1] at this; exact this
  have hV200 : V.length ≤ 200 := by have := hok.len (kd0_val hk); rw [ev] at this; exact this
  have hm : q * (V.length - 1) / 1000 ≤ 200 := by have : q * (V.length - 1) ≤ 1000 * 199 := Nat.mul_le_mul hq (by omega); omega
  refine lv_aload_n hx hb dX0_trueQuantileAt_0 rfl (lv_at hl 0 rfl) ?_
  refine g_values S hK h hk q_84 dX0_trueQuantileAt_1 ?_
  refine lv_iload_n hx hb dX0_trueQuantileAt_4 rfl (lv_at hl 1 rfl) ?_
  refine lv_aload_n hx hb dX0_trueQuantileAt_5 rfl (lv_at hl 0 rfl) ?_
  refine g_values S hK h hk q_84 dX0_trueQuantileAt_6 ?_
  refine q_V1 (ci := 4) S hI hK h [] (c_X4_length l L σ (kd0_val hk)) (kd0_val hk) rfl (by decide) q_216 q_217 q_218 q_3 q_219 yd_X4_length rfl ⟨⟨rfl, rfl⟩, ⟨(Nat.le_of_ble_eq_true rfl), (Nat.le_of_ble_eq_true rfl)⟩, Nat.le_refl _, Nat.le_refl _⟩ rfl (Nat.le_of_ble_eq_true rfl) hl.1 dX0_trueQuantileAt_9 (fun H locs h => ?_)
  refine cv_i (show (nI ((σ (d + 12)).length) : Int32) = nI V.length from (by rw [ev])) ?_
  refine q_SN1 S hI hK h [.int (nI q), .int (nI V.length)] (c_X7_trueIndex l L σ q V.length (by omega) (by omega) (by omega)) hK.2 q_509 q_1 q_510 yd_X7_trueIndex rfl ⟨⟨rfl, rfl⟩, ⟨(Nat.le_of_ble_eq_true rfl), (Nat.le_of_ble_eq_true rfl)⟩, Nat.le_refl _, Nat.le_refl _⟩ rfl (Nat.le_of_ble_eq_true rfl) hl.1 dX0_trueQuantileAt_12 (fun H locs h => ?_)
  refine q_V1 (ci := 4) S hI hK h [.int (nI (q * (V.length - 1) / 1000))] (c_X4_at l L σ (kd0_val hk) (by omega)) (kd0_val hk) rfl (by decide) q_261 q_213 q_214 q_3 q_215 yd_X4_at rfl ⟨⟨rfl, rfl⟩, ⟨(Nat.le_of_ble_eq_true rfl), (Nat.le_of_ble_eq_true rfl)⟩, Nat.le_refl _, Nat.le_refl _⟩ rfl (Nat.le_of_ble_eq_true rfl) hl.1 dX0_trueQuantileAt_15 (fun H locs h => ?_)
  refine cv_i (show ((σ (d + 12)).getD (q * (V.length - 1) / 1000) 0 : Int32) = V.getD (q * (V.length - 1) / 1000) 0 from (by rw [ev])) ?_
  exact e_i S hK h hr hlk dX0_trueQuantileAt_18 hp

abbrev rX0_packBy : Room := { frames := 4, cells := 0, slots := 0, locals := 92 }
theorem yd_X0_packBy : ydV yX0_packBy RX0 1 := ⟨rfl, by decide +kernel, by decide +kernel, by decide +kernel⟩
set_option maxHeartbeats 4000000 in
set_option maxRecDepth 100000 in
theorem c_X0_packBy (l : Launch) (L : Lay) (σ : St) {d : Nat} {A : List Hp} {B V : List Int32} {p0 : Int32} (hk : kd d = 0) (hv : DV σ d A B V p0) (hlen : A.length + B.length ≤ 200) (f : Int32) : Mf l L yX0_packBy (Cond.code yX0_packBy cX0_packBy 2 none :: qA) rX0_packBy [.ref (ad L d), .int f] σ none (dset σ d (packL f (A ++ B.map hunit)) [] V (p0 + nI 1)) := by
  refine Mf.ofW (by decide) (Nat.le_of_ble_eq_true rfl) ?_
  intro p e s m args below meth c ls post hp hI S hr hlk hK h hl
  have hx := S.1
  have hb := S.2.1
  have hok := h.ok
  have hl : lv_has ls 2 [(0, .ref (ad L d)), (1, .int f)] := hl
  obtain ⟨hvh, eb, ev, ep⟩ := id hv
  have hA := hvh.le hok (kd0_heaps hk)
  have hB20 : B.length ≤ 20 := by have := hok _ (kd0_buf hk); rw [eb, (kd_0h d (kd_of hk) hk).2.2.2.1] at this; exact this
  have hV200 : V.length ≤ 200 := by have := hok.len (kd0_val hk); rw [ev] at this; exact this
  refine lv_aload_n hx hb dX0_packBy_0 rfl (lv_at hl 0 rfl) ?_
  refine g_heaps S hK h hk q_79 dX0_packBy_1 ?_
  refine lv_aload_n hx hb dX0_packBy_4 rfl (lv_at hl 0 rfl) ?_
  refine g_buffer S hK h hk q_82 dX0_packBy_5 ?_
  refine q_V0 (ci := 1) S hI hK h [.ref (ad L (d + 10))] (c_X1_appendEach l L σ (kd0_heaps hk) (kd0_buf hk) (by omega) (by omega) (by omega) (by omega) hvh (by rw [eb]; exact hlen)) (kd0_heaps hk) rfl (by decide) q_266 q_267 q_268 q_6 q_269 yd_X1_appendEach rfl ⟨⟨rfl, rfl⟩, ⟨(Nat.le_of_ble_eq_true rfl), (Nat.le_of_ble_eq_true rfl)⟩, Nat.le_refl _, Nat.le_refl _⟩ rfl (Nat.le_of_ble_eq_true rfl) hl.1 dX0_packBy_8 (fun H locs h => ?_)
  have h := h.to (show hset σ (d + 1) (A ++ (σ (d + 10)).map hunit) = hset σ (d + 1) (A ++ B.map hunit) from (by rw [eb]))
  refine lv_aload_n hx hb dX0_packBy_11 rfl (lv_at hl 0 rfl) ?_
  refine g_buffer S hK h hk q_82 dX0_packBy_12 ?_
  refine q_V0 (ci := 4) S hI hK h [] (c_X4_empty l L (hset σ (d + 1) (A ++ B.map hunit)) (kd0_buf hk)) (kd0_buf hk) rfl (by decide) q_273 q_274 q_275 q_3 q_276 yd_X4_empty rfl ⟨⟨rfl, rfl⟩, ⟨(Nat.le_of_ble_eq_true rfl), (Nat.le_of_ble_eq_true rfl)⟩, Nat.le_refl _, Nat.le_refl _⟩ rfl (Nat.le_of_ble_eq_true rfl) hl.1 dX0_packBy_15 (fun H locs h => ?_)
  refine lv_aload_n hx hb dX0_packBy_18 rfl (lv_at hl 0 rfl) ?_
  refine g_heaps S hK h hk q_79 dX0_packBy_19 ?_
  refine lv_iload_n hx hb dX0_packBy_22 rfl (lv_at hl 1 rfl) ?_
  refine q_V0 (ci := 1) S hI hK h [.int f] (c_X1_packBy l L (up (hset σ (d + 1) (A ++ B.map hunit)) (d + 10) ([])) (kd0_heaps hk) (HV.hset.up (by omega))  f) (kd0_heaps hk) rfl (by decide) q_277 q_278 q_279 q_6 q_280 yd_X1_packBy rfl ⟨⟨rfl, rfl⟩, ⟨(Nat.le_of_ble_eq_true rfl), (Nat.le_of_ble_eq_true rfl)⟩, Nat.le_refl _, Nat.le_refl _⟩ rfl (Nat.le_of_ble_eq_true rfl) hl.1 dX0_packBy_23 (fun H locs h => ?_)
  refine lv_aload_n hx hb dX0_packBy_26 rfl (lv_at hl 0 rfl) ?_
  refine lv_dup hx hb dX0_packBy_27 rfl ?_
  refine g_packings S hK h hk q_85 dX0_packBy_28 ?_
  refine cv_i (show (((hset (up (hset σ (d + 1) (A ++ B.map hunit)) (d + 10) ([])) (d + 1) (packL f (A ++ B.map hunit))) d).getD 0 0 : Int32) = p0 from (by rw [hset_n (by omega) (by omega) (by omega) (by omega), up_n (by omega), hset_n (by omega) (by omega) (by omega) (by omega), ep]; rfl)) ?_
  refine lv_iconst (v := (nI 1)) hx hb dX0_packBy_31 (by decide) ?_
  refine lv_iadd hx hb dX0_packBy_32 ?_
  refine p_packings S hI hK h hk q_85 dX0_packBy_33 (fun H locs h => ?_)
  exact e_v S hK h hr hlk dX0_packBy_36 (fin_p hp rfl (dset_of ⟨HV.hset.up (by omega), by rw [up_n (by omega), hset_n (by omega) (by omega) (by omega) (by omega), up_s], by rw [up_n (by omega), hset_n (by omega) (by omega) (by omega) (by omega), up_n (by omega), hset_n (by omega) (by omega) (by omega) (by omega), ev], up_s⟩ (fun j a b c e f g h => by rw [up_n a, hset_n (by omega) (by omega) (by omega) (by omega), up_n g, hset_n (by omega) (by omega) (by omega) (by omega)])))

abbrev rX0_empty : Room := { frames := 2, cells := 0, slots := 0, locals := 40 }
abbrev rX0_copyFrom : Room := { frames := 3, cells := 0, slots := 0, locals := 102 }
theorem yd_X0_copyFrom : ydV yX0_copyFrom RX0 1 := ⟨rfl, by decide +kernel, by decide +kernel, by decide +kernel⟩
set_option maxHeartbeats 4000000 in
set_option maxRecDepth 100000 in
theorem c_X0_copyFrom (l : Launch) (L : Lay) (σ : St) {d d2 : Nat} {A2 : List Hp} {B2 V2 : List Int32} {p2 : Int32} (hk : kd d = 0) (hk2 : kd d2 = 0) (hne : d2 ≠ d) (hv2 : DV σ d2 A2 B2 V2 p2) : Mf l L yX0_copyFrom (Cond.code yX0_copyFrom cX0_copyFrom 2 none :: qA) rX0_copyFrom [.ref (ad L d), .ref (ad L d2)] σ none (dset σ d A2 B2 V2 p2) := by
  refine Mf.ofW (by decide) (Nat.le_of_ble_eq_true rfl) ?_
  intro p e s m args below meth c ls post hp hI S hr hlk hK h hl
  have hx := S.1
  have hb := S.2.1
  have hok := h.ok
  have hl : lv_has ls 2 [(0, .ref (ad L d)), (1, .ref (ad L d2))] := hl
  have hap := kd00 hk hk2 (Ne.symm hne)
  obtain ⟨hvh, eb, ev, ep⟩ := id hv2
  have hc := kd_0h d (kd_of hk) hk
  have hc2 := kd_0h d2 (kd_of hk2) hk2
  have hb20 := hok _ (kd0_buf hk2)
  have hv200 := hok _ (kd0_val hk2)
  refine lv_aload_n hx hb dX0_copyFrom_0 rfl (lv_at hl 0 rfl) ?_
  refine g_heaps S hK h hk q_79 dX0_copyFrom_1 ?_
  refine lv_aload_n hx hb dX0_copyFrom_4 rfl (lv_at hl 1 rfl) ?_
  refine g_heaps S hK h hk2 q_79 dX0_copyFrom_5 ?_
  refine q_V0 (ci := 1) S hI hK h [.ref (ad L (d2 + 1))] (c_X1_copyFrom l L σ (kd0_heaps hk) (kd0_heaps hk2) (by omega) hvh) (kd0_heaps hk) rfl (by decide) q_251 q_252 q_253 q_6 q_254 yd_X1_copyFrom rfl ⟨⟨rfl, rfl⟩, ⟨(Nat.le_of_ble_eq_true rfl), (Nat.le_of_ble_eq_true rfl)⟩, Nat.le_refl _, Nat.le_refl _⟩ rfl (Nat.le_of_ble_eq_true rfl) hl.1 dX0_copyFrom_8 (fun H locs h => ?_)
  refine lv_aload_n hx hb dX0_copyFrom_11 rfl (lv_at hl 0 rfl) ?_
  refine g_buffer S hK h hk q_82 dX0_copyFrom_12 ?_
  refine lv_aload_n hx hb dX0_copyFrom_15 rfl (lv_at hl 1 rfl) ?_
  refine g_buffer S hK h hk2 q_82 dX0_copyFrom_16 ?_
  refine q_V0 (ci := 4) S hI hK h [.ref (ad L (d2 + 10))] (c_X4_copyFrom l L (hset σ (d + 1) A2) (kd0_buf hk) (kd0_buf hk2) (by omega) (by rw [hset_n (by omega) (by omega) (by omega) (by omega)]; omega)) (kd0_buf hk) rfl (by decide) q_256 q_238 q_239 q_3 q_240 yd_X4_copyFrom rfl ⟨⟨rfl, rfl⟩, ⟨(Nat.le_of_ble_eq_true rfl), (Nat.le_of_ble_eq_true rfl)⟩, Nat.le_refl _, Nat.le_refl _⟩ rfl (Nat.le_of_ble_eq_true rfl) hl.1 dX0_copyFrom_19 (fun H locs h => ?_)
  have h := h.to (show up (hset σ (d + 1) A2) (d + 10) ((hset σ (d + 1) A2) (d2 + 10)) = up (hset σ (d + 1) A2) (d + 10) B2 from (by rw [hset_n (by omega) (by omega) (by omega) (by omega), eb]))
  refine lv_aload_n hx hb dX0_copyFrom_22 rfl (lv_at hl 0 rfl) ?_
  refine g_values S hK h hk q_84 dX0_copyFrom_23 ?_
  refine lv_aload_n hx hb dX0_copyFrom_26 rfl (lv_at hl 1 rfl) ?_
  refine g_values S hK h hk2 q_84 dX0_copyFrom_27 ?_
  refine q_V0 (ci := 4) S hI hK h [.ref (ad L (d2 + 12))] (c_X4_copyFrom l L (up (hset σ (d + 1) A2) (d + 10) B2) (kd0_val hk) (kd0_val hk2) (by omega) (by rw [up_n (by omega), hset_n (by omega) (by omega) (by omega) (by omega)]; omega)) (kd0_val hk) rfl (by decide) q_256 q_238 q_239 q_3 q_240 yd_X4_copyFrom rfl ⟨⟨rfl, rfl⟩, ⟨(Nat.le_of_ble_eq_true rfl), (Nat.le_of_ble_eq_true rfl)⟩, Nat.le_refl _, Nat.le_refl _⟩ rfl (Nat.le_of_ble_eq_true rfl) hl.1 dX0_copyFrom_30 (fun H locs h => ?_)
  have h := h.to (show up (up (hset σ (d + 1) A2) (d + 10) B2) (d + 12) ((up (hset σ (d + 1) A2) (d + 10) B2) (d2 + 12)) = up (up (hset σ (d + 1) A2) (d + 10) B2) (d + 12) V2 from (by rw [up_n (by omega), hset_n (by omega) (by omega) (by omega) (by omega), ev]))
  refine lv_aload_n hx hb dX0_copyFrom_33 rfl (lv_at hl 0 rfl) ?_
  refine lv_aload_n hx hb dX0_copyFrom_34 rfl (lv_at hl 1 rfl) ?_
  refine g_packings S hK h hk2 q_85 dX0_copyFrom_35 ?_
  refine cv_i (show (((up (up (hset σ (d + 1) A2) (d + 10) B2) (d + 12) V2) d2).getD 0 0 : Int32) = p2 from (by rw [up_n (by omega), up_n (by omega), hset_n (by omega) (by omega) (by omega) (by omega), ep]; rfl)) ?_
  refine p_packings S hI hK h hk q_85 dX0_copyFrom_38 (fun H locs h => ?_)
  exact e_v S hK h hr hlk dX0_copyFrom_41 (fin_p hp rfl (dset_of ⟨((HV.hset.up (by omega)).up (by omega)).up (by omega), by rw [up_n (by omega), up_n (by omega), up_s], by rw [up_n (by omega), up_s], up_s⟩ (fun j a b c e f g h => by rw [up_n a, up_n h, up_n g, hset_n (by omega) (by omega) (by omega) (by omega)])))

abbrev rX0_receive : Room := { frames := 5, cells := 0, slots := 0, locals := 113 }
theorem yd_X0_receive : ydV yX0_receive RX0 2 := ⟨rfl, by decide +kernel, by decide +kernel, by decide +kernel⟩
set_option maxHeartbeats 4000000 in
set_option maxRecDepth 100000 in
theorem c_X0_receive (l : Launch) (L : Lay) (σ : St) {d ks : Nat} {D : Dg} {s0 s1 : Int32} (hk : kd d = 0) (hks : kd ks = 4) (hap : ks < d ∨ d + 14 ≤ ks) (hv : DX σ d D) (hs : σ ks = [s0, s1]) (h20 : s1 ≤ 20) (hlen : D.1.length + D.2.1.length ≤ 200) (hV : D.2.2.1.length < 200) (v : Int32) : Mf l L yX0_receive (Cond.code yX0_receive cX0_receive 3 none :: qA) rX0_receive [.ref (ad L d), .int v, .ref (ad L ks)] σ none (dx σ d (rcvD s0 s1 D v)) := by
  refine Mf.ofW (by decide) (Nat.le_of_ble_eq_true rfl) ?_
  intro p e s m args below meth c ls post hp hI S hr hlk hK h hl
  have hx := S.1
  have hb := S.2.1
  have hok := h.ok
  have hl : lv_has ls 3 [(0, .ref (ad L d)), (1, .int v), (2, .ref (ad L ks))] := hl
  obtain ⟨hvh, eb, ev, ep⟩ := id hv
  have hB20 : D.2.1.length ≤ 20 := by have := hok _ (kd0_buf hk); rw [eb, (kd_0h d (kd_of hk) hk).2.2.2.1] at this; exact this
  have hc := kd_0h d (kd_of hk) hk
  refine lv_aload_n hx hb dX0_receive_0 rfl (lv_at hl 0 rfl) ?_
  refine g_buffer S hK h hk q_82 dX0_receive_1 ?_
  refine q_V1 (ci := 4) S hI hK h [] (c_X4_length l L σ (kd0_buf hk)) (kd0_buf hk) rfl (by decide) q_216 q_217 q_218 q_3 q_219 yd_X4_length rfl ⟨⟨rfl, rfl⟩, ⟨(Nat.le_of_ble_eq_true rfl), (Nat.le_of_ble_eq_true rfl)⟩, Nat.le_refl _, Nat.le_refl _⟩ rfl (Nat.le_of_ble_eq_true rfl) hl.1 dX0_receive_4 (fun H locs h => ?_)
  refine cv_i (show (nI ((σ (d + 10)).length) : Int32) = nI D.2.1.length from (by rw [eb])) ?_
  refine lv_aload_n hx hb dX0_receive_7 rfl (lv_at hl 2 rfl) ?_
  refine lv_iconst (v := (nI 1)) hx hb dX0_receive_8 (by decide) ?_
  refine q_V1 (ci := 4) S hI hK h [.int (nI 1)] (c_X4_at l L σ hks (by omega)) hks rfl (by decide) q_261 q_213 q_214 q_3 q_215 yd_X4_at rfl ⟨⟨rfl, rfl⟩, ⟨(Nat.le_of_ble_eq_true rfl), (Nat.le_of_ble_eq_true rfl)⟩, Nat.le_refl _, Nat.le_refl _⟩ rfl (Nat.le_of_ble_eq_true rfl) hl.1 dX0_receive_9 (fun H locs h => ?_)
  refine cv_i (show ((σ ks).getD 1 0 : Int32) = s1 from (by rw [hs]; rfl)) ?_
  have CT_24 : ∀ (E : Dg) (σ1 : St) (H : Heap) (locs : List Loc) (ls : Array Slot), (σ1 = dx σ d E) → (E.2.1.length < 20) → (E.2.2.1.length < 200) → (rcvD s0 s1 D v = (E.1, E.2.1 ++ [v], ins E.2.2.1 v, E.2.2.2)) → Hd L s.heap H σ1 locs → lv_has ls 3 [(0, .ref (ad L d)), (1, .int v), (2, .ref (ad L ks))] → W p l e rX0_receive s m args below meth c H locs 0 0 (MQ below (Qg post (bs L) (Aw L)) args s 0 0 (Aw L)) (F0 m 24 ls []) := by
    intro E σ1 H locs ls hE hbE hVE hr9 h hl
    have hok := h.ok
    have hvE : DX σ1 d E := by rw [hE]; exact DV.dset
    obtain ⟨hvh1, eb1, ev1, ep1⟩ := id hvE
    refine lv_aload_n hx hb dX0_receive_24 rfl (lv_at hl 0 rfl) ?_
    refine g_buffer S hK h hk q_82 dX0_receive_25 ?_
    refine lv_iload_n hx hb dX0_receive_28 rfl (lv_at hl 1 rfl) ?_
    refine q_V0 (ci := 4) S hI hK h [.int v] (c_X4_append l L σ1 (kd0_buf hk) (by rw [eb1]; omega) v) (kd0_buf hk) rfl (by decide) q_327 q_97 q_98 q_3 q_99 yd_X4_append rfl ⟨⟨rfl, rfl⟩, ⟨(Nat.le_of_ble_eq_true rfl), (Nat.le_of_ble_eq_true rfl)⟩, Nat.le_refl _, Nat.le_refl _⟩ rfl (Nat.le_of_ble_eq_true rfl) hl.1 dX0_receive_29 (fun H locs h => ?_)
    refine lv_aload_n hx hb dX0_receive_32 rfl (lv_at hl 0 rfl) ?_
    refine g_values S hK h hk q_84 dX0_receive_33 ?_
    refine lv_iload_n hx hb dX0_receive_36 rfl (lv_at hl 1 rfl) ?_
    refine q_V0 (ci := 4) S hI hK h [.int v] (c_X4_insertInOrder l L (up σ1 (d + 10) ((σ1 (d + 10)) ++ [v])) (kd0_val hk) (by rw [up_n (by omega), ev1]; omega) v) (kd0_val hk) rfl (by decide) q_328 q_329 q_330 q_3 q_331 yd_X4_insertInOrder rfl ⟨⟨rfl, rfl⟩, ⟨(Nat.le_of_ble_eq_true rfl), (Nat.le_of_ble_eq_true rfl)⟩, Nat.le_refl _, Nat.le_refl _⟩ rfl (Nat.le_of_ble_eq_true rfl) hl.1 dX0_receive_37 (fun H locs h => ?_)
    exact e_v S hK h hr hlk dX0_receive_40 (fin_p hp rfl (by rw [hr9]; exact (dset_of ⟨(hvh1.up (by omega)).up (by omega), by rw [up_n (by omega), up_s, eb1], by rw [up_s, up_n (by omega), ev1], by rw [up_n (by omega), up_n (by omega), ep1]⟩ (fun j a b c e f g h => by rw [up_n h, up_n g, hE]; exact dset_o a b c e f g h))))
  refine lv_icmp_lt (tgt := 24) hx hb dX0_receive_12 (by decide) (fun c_12 => ?_) (fun c_12 => ?_)
  · exact CT_24 D σ _ _ _ (dset_id hv).symm (rcv_b c_12 h20 hB20) hV (by rw [rcvD, if_neg (Int32.not_le.mpr c_12)]) h (lv_sub hl [0, 1, 2] rfl)
  · refine lv_aload_n hx hb dX0_receive_15 rfl (lv_at hl 0 rfl) ?_
    refine lv_aload_n hx hb dX0_receive_16 rfl (lv_at hl 2 rfl) ?_
    refine lv_iconst (v := (nI 0)) hx hb dX0_receive_17 (by decide) ?_
    refine q_V1 (ci := 4) S hI hK h [.int (nI 0)] (c_X4_at l L σ hks (by omega)) hks rfl (by decide) q_261 q_213 q_214 q_3 q_215 yd_X4_at rfl ⟨⟨rfl, rfl⟩, ⟨(Nat.le_of_ble_eq_true rfl), (Nat.le_of_ble_eq_true rfl)⟩, Nat.le_refl _, Nat.le_refl _⟩ rfl (Nat.le_of_ble_eq_true rfl) hl.1 dX0_receive_18 (fun H locs h => ?_)
    refine cv_i (show ((σ ks).getD 0 0 : Int32) = s0 from (by rw [hs]; rfl)) ?_
    refine q_V0 (ci := 0) S hI hK h [.int s0] (c_X0_packBy l L σ hk hv hlen s0) hk rfl (by decide) q_262 q_263 q_264 q_5 q_265 yd_X0_packBy rfl ⟨⟨rfl, rfl⟩, ⟨(Nat.le_of_ble_eq_true rfl), (Nat.le_of_ble_eq_true rfl)⟩, Nat.le_refl _, Nat.le_refl _⟩ rfl (Nat.le_of_ble_eq_true rfl) hl.1 dX0_receive_21 (fun H locs h => ?_)
    exact CT_24 (pkD s0 D) (dset σ d (packL s0 (D.1 ++ D.2.1.map hunit)) [] D.2.2.1 (D.2.2.2 + nI 1)) _ _ _ rfl (show (0 : Nat) < 20 from by omega) hV (by rw [rcvD, if_pos (Int32.not_lt.mp c_12)]) h (lv_sub hl [0, 1, 2] rfl)

abbrev rX0_takeOver : Room := { frames := 5, cells := 0, slots := 0, locals := 113 }
theorem yd_X0_takeOver : ydV yX0_takeOver RX0 2 := ⟨rfl, by decide +kernel, by decide +kernel, by decide +kernel⟩
set_option maxHeartbeats 4000000 in
set_option maxRecDepth 100000 in
theorem c_X0_takeOver (l : Launch) (L : Lay) (σ : St) {d d2 : Nat} {D D2 : Dg} (hk : kd d = 0) (hk2 : kd d2 = 0) (hne : d2 ≠ d) (hv : DX σ d D) (hv2 : DX σ d2 D2) (hlen : D.1.length + D.2.1.length + (D2.1.length + D2.2.1.length) ≤ 200) (hV : D.2.2.1.length + D2.2.2.1.length ≤ 200) (f : Int32) : Mf l L yX0_takeOver (Cond.code yX0_takeOver cX0_takeOver 4 none :: qA) rX0_takeOver [.ref (ad L d), .ref (ad L d2), .int f] σ none (dx (dx σ d2 (pkD f D2)) d (toD f D2 D)) := by
  refine Mf.ofW (by decide) (Nat.le_of_ble_eq_true rfl) ?_
  intro p e s m args below meth c ls post hp hI S hr hlk hK h hl
  have hx := S.1
  have hb := S.2.1
  have hok := h.ok
  have hl : lv_has ls 4 [(0, .ref (ad L d)), (1, .ref (ad L d2)), (2, .int f)] := hl
  have hap := kd00 hk hk2 (Ne.symm hne)
  have l1 : (pkD f D).1.length ≤ D.1.length + D.2.1.length := by have := packL_len (f := f) (A := D.1 ++ D.2.1.map hunit); rw [List.length_append, List.length_map] at this; exact this
  have l2 : (pkD f D2).1.length ≤ D2.1.length + D2.2.1.length := by have := packL_len (f := f) (A := D2.1 ++ D2.2.1.map hunit); rw [List.length_append, List.length_map] at this; exact this
  have hc := kd_0h d (kd_of hk) hk
  refine lv_aload_n hx hb dX0_takeOver_0 rfl (lv_at hl 1 rfl) ?_
  refine lv_iload_n hx hb dX0_takeOver_1 rfl (lv_at hl 2 rfl) ?_
  refine q_V0 (ci := 0) S hI hK h [.int f] (c_X0_packBy l L σ hk2 hv2 (by omega) f) hk2 rfl (by decide) q_262 q_263 q_264 q_5 q_265 yd_X0_packBy rfl ⟨⟨rfl, rfl⟩, ⟨(Nat.le_of_ble_eq_true rfl), (Nat.le_of_ble_eq_true rfl)⟩, Nat.le_refl _, Nat.le_refl _⟩ rfl (Nat.le_of_ble_eq_true rfl) hl.1 dX0_takeOver_2 (fun H locs h => ?_)
  have h := h.to (show dset σ d2 (packL f (D2.1 ++ D2.2.1.map hunit)) [] D2.2.2.1 (D2.2.2.2 + nI 1) = dx σ d2 (pkD f D2) from rfl)
  have hvA : DX (dx σ d2 (pkD f D2)) d D := DV_ne hv (by omega)
  refine lv_aload_n hx hb dX0_takeOver_5 rfl (lv_at hl 0 rfl) ?_
  refine lv_iload_n hx hb dX0_takeOver_6 rfl (lv_at hl 2 rfl) ?_
  refine q_V0 (ci := 0) S hI hK h [.int f] (c_X0_packBy l L (dx σ d2 (pkD f D2)) hk hvA (by omega) f) hk rfl (by decide) q_262 q_263 q_264 q_5 q_265 yd_X0_packBy rfl ⟨⟨rfl, rfl⟩, ⟨(Nat.le_of_ble_eq_true rfl), (Nat.le_of_ble_eq_true rfl)⟩, Nat.le_refl _, Nat.le_refl _⟩ rfl (Nat.le_of_ble_eq_true rfl) hl.1 dX0_takeOver_7 (fun H locs h => ?_)
  have h := h.to (show dset (dx σ d2 (pkD f D2)) d (packL f (D.1 ++ D.2.1.map hunit)) [] D.2.2.1 (D.2.2.2 + nI 1) = dx (dx σ d2 (pkD f D2)) d (pkD f D) from rfl)
  have hvB : DX (dx (dx σ d2 (pkD f D2)) d (pkD f D)) d2 (pkD f D2) := DV_ne DV.dset (by omega)
  have hvC : DX (dx (dx σ d2 (pkD f D2)) d (pkD f D)) d (pkD f D) := DV.dset
  refine lv_aload_n hx hb dX0_takeOver_10 rfl (lv_at hl 0 rfl) ?_
  refine g_heaps S hK h hk q_79 dX0_takeOver_11 ?_
  refine lv_aload_n hx hb dX0_takeOver_14 rfl (lv_at hl 1 rfl) ?_
  refine g_heaps S hK h hk2 q_79 dX0_takeOver_15 ?_
  refine q_V0 (ci := 1) S hI hK h [.ref (ad L (d2 + 1))] (c_X1_appendAll l L (dx (dx σ d2 (pkD f D2)) d (pkD f D)) (kd0_heaps hk) (kd0_heaps hk2) (by omega) hvC.1 hvB.1 (by omega)) (kd0_heaps hk) rfl (by decide) q_349 q_350 q_351 q_6 q_352 yd_X1_appendAll rfl ⟨⟨rfl, rfl⟩, ⟨(Nat.le_of_ble_eq_true rfl), (Nat.le_of_ble_eq_true rfl)⟩, Nat.le_refl _, Nat.le_refl _⟩ rfl (Nat.le_of_ble_eq_true rfl) hl.1 dX0_takeOver_18 (fun H locs h => ?_)
  obtain ⟨σ3, e_σ3⟩ : ∃ z : St, z = hset (dx (dx σ d2 (pkD f D2)) d (pkD f D)) (d + 1) (((pkD f D).1) ++ ((pkD f D2).1)) := ⟨_, rfl⟩
  have h := h.to e_σ3.symm
  have hvD : DV σ3 d ((pkD f D).1 ++ (pkD f D2).1) [] D.2.2.1 (D.2.2.2 + nI 1) := by rw [e_σ3]; exact ⟨HV.hset, by rw [hset_n (by omega) (by omega) (by omega) (by omega)]; exact hvC.2.1, by rw [hset_n (by omega) (by omega) (by omega) (by omega)]; exact hvC.2.2.1, by rw [hset_n (by omega) (by omega) (by omega) (by omega)]; exact hvC.2.2.2⟩
  refine lv_aload_n hx hb dX0_takeOver_21 rfl (lv_at hl 0 rfl) ?_
  refine lv_iload_n hx hb dX0_takeOver_22 rfl (lv_at hl 2 rfl) ?_
  refine q_V0 (ci := 0) S hI hK h [.int f] (c_X0_packBy l L σ3 hk hvD (by rw [List.length_append, List.length_nil]; omega) f) hk rfl (by decide) q_262 q_263 q_264 q_5 q_265 yd_X0_packBy rfl ⟨⟨rfl, rfl⟩, ⟨(Nat.le_of_ble_eq_true rfl), (Nat.le_of_ble_eq_true rfl)⟩, Nat.le_refl _, Nat.le_refl _⟩ rfl (Nat.le_of_ble_eq_true rfl) hl.1 dX0_takeOver_23 (fun H locs h => ?_)
  have h := h.to (show dset σ3 d (packL f (((pkD f D).1 ++ (pkD f D2).1) ++ ([] : List Int32).map hunit)) [] D.2.2.1 ((D.2.2.2 + nI 1) + nI 1) = dset (dx σ d2 (pkD f D2)) d (toD f D2 D).1 [] D.2.2.1 (D.2.2.2 + nI 1 + nI 1) from (by rw [List.map_nil, List.append_nil, e_σ3]; exact (dset_of (DV.dset) (fun j a b c e f g h => by rw [dset_o a b c e f g h, hset_n (by omega) (by omega) (by omega) (by omega)]; exact dset_o a b c e f g h))))
  refine lv_iconst (v := (nI 0)) hx hb dX0_takeOver_26 (by decide) ?_
  refine lv_istore_n (lv' := [(3, .int (nI 0)), (0, .ref (ad L d)), (1, .ref (ad L d2)), (2, .int f)]) hx hb dX0_takeOver_27 rfl hl (by decide) rfl (fun ls hl => ?_)
  have LP_28 : ∀ (n_28 : Nat) (i : Nat) (σ1 : St), (i ≤ D2.2.2.1.length) → (σ1 = dset (dx σ d2 (pkD f D2)) d (toD f D2 D).1 [] ((D2.2.2.1.take i).foldl ins D.2.2.1) (D.2.2.2 + nI 1 + nI 1)) → D2.2.2.1.length - i < n_28 → ∀ (H : Heap) (locs : List Loc) (ls : Array Slot), Hd L s.heap H σ1 locs → lv_has ls 4 [(3, .int (nI i)), (0, .ref (ad L d)), (1, .ref (ad L d2)), (2, .int f)] → W p l e rX0_takeOver s m args below meth c H locs 0 0 (MQ below (Qg post (bs L) (Aw L)) args s 0 0 (Aw L)) (F0 m 28 ls []) := by
    intro n_28
    induction n_28 with
    | zero => intro i σ1; intros; omega
    | succ n_28 ih_28 =>
      intro i σ1 hi hσ hm_28 H locs ls h hl
      have hok := h.ok
      have ev2 : σ1 (d2 + 12) = D2.2.2.1 := by rw [hσ, dset_n (by omega)]; exact dset_v
      have ev1 : σ1 (d + 12) = (D2.2.2.1.take i).foldl ins D.2.2.1 := by rw [hσ]; exact dset_v
      have elen : ((D2.2.2.1.take i).foldl ins D.2.2.1).length = D.2.2.1.length + i := by rw [foldl_ins_len, List.length_take]; omega
      refine lv_iload_n hx hb dX0_takeOver_28 rfl (lv_at hl 0 rfl) ?_
      refine lv_aload_n hx hb dX0_takeOver_29 rfl (lv_at hl 2 rfl) ?_
      refine g_values S hK h hk2 q_84 dX0_takeOver_30 ?_
      refine q_V1 (ci := 4) S hI hK h [] (c_X4_length l L σ1 (kd0_val hk2)) (kd0_val hk2) rfl (by decide) q_216 q_217 q_218 q_3 q_219 yd_X4_length rfl ⟨⟨rfl, rfl⟩, ⟨(Nat.le_of_ble_eq_true rfl), (Nat.le_of_ble_eq_true rfl)⟩, Nat.le_refl _, Nat.le_refl _⟩ rfl (Nat.le_of_ble_eq_true rfl) hl.1 dX0_takeOver_33 (fun H locs h => ?_)
      refine cv_i (show (nI ((σ1 (d2 + 12)).length) : Int32) = nI D2.2.2.1.length from (by rw [ev2])) ?_
      refine b_icmp_ge (tgt := 60) hx hb dX0_takeOver_36 (by decide) (by omega) (by omega) (fun c_36 => ?_) (fun c_36 => ?_)
      · have e4 : i = D2.2.2.1.length := by omega
        exact e_v S hK h hr hlk dX0_takeOver_60 (fin_p hp rfl (by rw [hσ, e4, List.take_of_length_le (Nat.le_refl _)]; rfl))
      · refine lv_aload_n hx hb dX0_takeOver_39 rfl (lv_at hl 1 rfl) ?_
        refine g_values S hK h hk q_84 dX0_takeOver_40 ?_
        refine lv_aload_n hx hb dX0_takeOver_43 rfl (lv_at hl 2 rfl) ?_
        refine g_values S hK h hk2 q_84 dX0_takeOver_44 ?_
        refine lv_iload_n hx hb dX0_takeOver_47 rfl (lv_at hl 0 rfl) ?_
        refine q_V1 (ci := 4) S hI hK h [.int (nI i)] (c_X4_at l L σ1 (kd0_val hk2) (by omega)) (kd0_val hk2) rfl (by decide) q_261 q_213 q_214 q_3 q_215 yd_X4_at rfl ⟨⟨rfl, rfl⟩, ⟨(Nat.le_of_ble_eq_true rfl), (Nat.le_of_ble_eq_true rfl)⟩, Nat.le_refl _, Nat.le_refl _⟩ rfl (Nat.le_of_ble_eq_true rfl) hl.1 dX0_takeOver_48 (fun H locs h => ?_)
        refine cv_i (show ((σ1 (d2 + 12)).getD i 0 : Int32) = D2.2.2.1.getD i 0 from (by rw [ev2])) ?_
        refine q_V0 (ci := 4) S hI hK h [.int (D2.2.2.1.getD i 0)] (c_X4_insertInOrder l L σ1 (kd0_val hk) (by rw [ev1, elen]; omega) (D2.2.2.1.getD i 0)) (kd0_val hk) rfl (by decide) q_328 q_329 q_330 q_3 q_331 yd_X4_insertInOrder rfl ⟨⟨rfl, rfl⟩, ⟨(Nat.le_of_ble_eq_true rfl), (Nat.le_of_ble_eq_true rfl)⟩, Nat.le_refl _, Nat.le_refl _⟩ rfl (Nat.le_of_ble_eq_true rfl) hl.1 dX0_takeOver_51 (fun H locs h => ?_)
        refine lv_iinc (v := (nI (i + 1))) (lv' := [(3, .int (nI (i + 1))), (0, .ref (ad L d)), (1, .ref (ad L d2)), (2, .int f)]) hx hb dX0_takeOver_54 hl (k := 0) rfl (iinc_1 _) (by decide) rfl (fun ls hl => ?_)
        refine lv_goto (tgt := 28) hx hb dX0_takeOver_57 (by decide) ?_
        exact ih_28 (i + 1) (up σ1 (d + 12) (ins (σ1 (d + 12)) (D2.2.2.1.getD i 0))) (by omega) (by rw [hσ, dset_v, ← take_snoc (d := 0) c_36, List.foldl_append]; exact (dset_of ⟨DV.dset.1.up (by omega), by rw [up_n (by omega)]; exact dset_b, by rw [up_s]; rfl, by rw [up_n (by omega)]; exact dset_d⟩ (fun j a b c e f g h => by rw [up_n h, dset_h a g h, hset_n (by omega) (by omega) (by omega) (by omega)]))) (by omega) _ _ _ h (lv_sub hl [0, 1, 2, 3] rfl)
  exact LP_28 _ 0 (dset (dx σ d2 (pkD f D2)) d (toD f D2 D).1 [] D.2.2.1 (D.2.2.2 + nI 1 + nI 1)) (by omega) rfl (Nat.lt_succ_self _) _ _ _ h (lv_sub hl [0, 1, 2, 3] rfl)

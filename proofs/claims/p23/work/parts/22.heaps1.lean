theorem swp_map {α β : Type} (f : α → β) (d : α) {l : List α} {i j : Nat} : swp (f d) (l.map f) i j = (swp d l i j).map f := by
  unfold swp
  rw [getD_map, getD_map, List.map_set, List.map_set]
theorem fb_rng0 (x : Int32) : -2147483648 ≤ x.toInt ∧ x.toInt < 2147483648 := ⟨Int32.le_toInt x, Int32.toInt_lt x⟩
theorem i64_mul (a b : Int32) : (a.toInt64 * b.toInt64).toInt = a.toInt * b.toInt := by
  rw [Int64.toInt_mul, Int32.toInt_toInt64, Int32.toInt_toInt64]
  have h1 := fb_rng0 a
  have h2 := fb_rng0 b
  have h3 : -(4611686018427387904) ≤ a.toInt * b.toInt ∧ a.toInt * b.toInt ≤ 4611686018427387904 := by
    have hx : a.toInt.natAbs ≤ 2147483648 := by omega
    have hy : b.toInt.natAbs ≤ 2147483648 := by omega
    have hm : (a.toInt * b.toInt).natAbs ≤ 2147483648 * 2147483648 := by rw [Int.natAbs_mul]; exact Nat.mul_le_mul hx hy
    omega
  exact Int.bmod_eq_of_le (by omega) (by omega)
theorem gtH_yes {a b : Hp} {x1 x2 : Int64} (e1 : x1 = (h_s a).toInt64 * (h_w b).toInt64) (e2 : x2 = (h_s b).toInt64 * (h_w a).toInt64) (h : x2 < x1) : gtH a b = true := by
  have := Int64.lt_iff_toInt_lt.mp h
  rw [e1, e2, i64_mul, i64_mul] at this
  exact decide_eq_true this
theorem gtH_no {a b : Hp} {x1 x2 : Int64} (e1 : x1 = (h_s a).toInt64 * (h_w b).toInt64) (e2 : x2 = (h_s b).toInt64 * (h_w a).toInt64) (h : x1 ≤ x2) (q : gtH a b = true) : False := by
  have h1 := Int64.le_iff_toInt_le.mp h
  rw [e1, e2, i64_mul, i64_mul] at h1
  have h2 := of_decide_eq_true q
  omega
abbrev rX1_size : Room := { frames := 1, cells := 0, slots := 0, locals := 20 }
theorem yd_X1_size : ydV yX1_size RX1 0 := ⟨rfl, by decide +kernel, by decide +kernel, by decide +kernel⟩
set_option maxHeartbeats 4000000 in
set_option maxRecDepth 100000 in
theorem c_X1_size (l : Launch) (L : Lay) (σ : St) {k : Nat} {A : List Hp} (hk : kd k = 1) (hv : HV σ k A) : Mf l L yX1_size (Cond.code yX1_size cX1_size 1 (some FieldType.int) :: qA) rX1_size [.ref (ad L k)] σ (some (.int (nI A.length))) σ := by
  refine Mf.ofW (by decide) (Nat.le_of_ble_eq_true rfl) ?_
  intro p e s m args below meth c ls post hp hI S hr hlk hK h hl
  have hx := S.1
  have hb := S.2.1
  have hok := h.ok
  have hl : lv_has ls 1 [(0, .ref (ad L k))] := hl
  refine lv_aload_n hx hb dX1_size_0 rfl (lv_at hl 0 rfl) ?_
  refine g_weights S hK h hk q_56 dX1_size_1 ?_
  refine q_V1 (ci := 4) S hI hK h [] (c_X4_length l L σ (kd1_1 hk)) (kd1_1 hk) rfl (by decide) q_270 q_217 q_218 q_3 q_219 yd_X4_length rfl ⟨⟨rfl, rfl⟩, ⟨(Nat.le_of_ble_eq_true rfl), (Nat.le_of_ble_eq_true rfl)⟩, Nat.le_refl _, Nat.le_refl _⟩ rfl (Nat.le_of_ble_eq_true rfl) hl.1 dX1_size_4 (fun H locs h => ?_)
  refine cv_i (show (nI ((σ (k + 1)).length) : Int32) = nI A.length from (by rw [hv.len.1])) ?_
  exact e_i S hK h hr hlk dX1_size_7 hp

abbrev rX1_empty : Room := { frames := 1, cells := 0, slots := 0, locals := 20 }
abbrev rX1_copyFrom : Room := { frames := 2, cells := 0, slots := 0, locals := 81 }
theorem yd_X1_copyFrom : ydV yX1_copyFrom RX1 1 := ⟨rfl, by decide +kernel, by decide +kernel, by decide +kernel⟩
set_option maxHeartbeats 4000000 in
set_option maxRecDepth 100000 in
theorem c_X1_copyFrom (l : Launch) (L : Lay) (σ : St) {k k2 : Nat} {A2 : List Hp} (hk : kd k = 1) (hk2 : kd k2 = 1) (hkk : k2 ≠ k) (hv2 : HV σ k2 A2) : Mf l L yX1_copyFrom (Cond.code yX1_copyFrom cX1_copyFrom 2 none :: qA) rX1_copyFrom [.ref (ad L k), .ref (ad L k2)] σ none (hset σ k A2) := by
  refine Mf.ofW (by decide) (Nat.le_of_ble_eq_true rfl) ?_
  intro p e s m args below meth c ls post hp hI S hr hlk hK h hl
  have hx := S.1
  have hb := S.2.1
  have hok := h.ok
  have hl : lv_has ls 2 [(0, .ref (ad L k)), (1, .ref (ad L k2))] := hl
  have hap := kd11 hk hk2 (Ne.symm hkk)
  obtain ⟨hl1, hl3, hl5, hl7⟩ := hv2.len
  have hA := hv2.le hok hk2
  obtain ⟨e1, e3, e5, e7⟩ := hv2
  have hc := kd_1h k (kd_of hk) hk
  refine lv_aload_n hx hb dX1_copyFrom_0 rfl (lv_at hl 0 rfl) ?_
  refine g_weights S hK h hk q_56 dX1_copyFrom_1 ?_
  refine lv_aload_n hx hb dX1_copyFrom_4 rfl (lv_at hl 1 rfl) ?_
  refine g_weights S hK h hk2 q_56 dX1_copyFrom_5 ?_
  refine q_V0 (ci := 4) S hI hK h [.ref (ad L (k2 + 1))] (c_X4_copyFrom l L σ (kd1_1 hk) (kd1_1 hk2) (by omega) (by omega)) (kd1_1 hk) rfl (by decide) q_255 q_238 q_239 q_3 q_240 yd_X4_copyFrom rfl ⟨⟨rfl, rfl⟩, ⟨(Nat.le_of_ble_eq_true rfl), (Nat.le_of_ble_eq_true rfl)⟩, Nat.le_refl _, Nat.le_refl _⟩ rfl (Nat.le_of_ble_eq_true rfl) hl.1 dX1_copyFrom_8 (fun H locs h => ?_)
  refine lv_aload_n hx hb dX1_copyFrom_11 rfl (lv_at hl 0 rfl) ?_
  refine g_sums S hK h hk q_59 dX1_copyFrom_12 ?_
  refine lv_aload_n hx hb dX1_copyFrom_15 rfl (lv_at hl 1 rfl) ?_
  refine g_sums S hK h hk2 q_59 dX1_copyFrom_16 ?_
  refine q_V0 (ci := 4) S hI hK h [.ref (ad L (k2 + 3))] (c_X4_copyFrom l L (up σ (k + 1) (σ (k2 + 1))) (kd1_3 hk) (kd1_3 hk2) (by omega) (by rw [up_n (by omega)]; omega)) (kd1_3 hk) rfl (by decide) q_255 q_238 q_239 q_3 q_240 yd_X4_copyFrom rfl ⟨⟨rfl, rfl⟩, ⟨(Nat.le_of_ble_eq_true rfl), (Nat.le_of_ble_eq_true rfl)⟩, Nat.le_refl _, Nat.le_refl _⟩ rfl (Nat.le_of_ble_eq_true rfl) hl.1 dX1_copyFrom_19 (fun H locs h => ?_)
  refine lv_aload_n hx hb dX1_copyFrom_22 rfl (lv_at hl 0 rfl) ?_
  refine g_leasts S hK h hk q_62 dX1_copyFrom_23 ?_
  refine lv_aload_n hx hb dX1_copyFrom_26 rfl (lv_at hl 1 rfl) ?_
  refine g_leasts S hK h hk2 q_62 dX1_copyFrom_27 ?_
  refine q_V0 (ci := 4) S hI hK h [.ref (ad L (k2 + 5))] (c_X4_copyFrom l L (up (up σ (k + 1) (σ (k2 + 1))) (k + 3) ((up σ (k + 1) (σ (k2 + 1))) (k2 + 3))) (kd1_5 hk) (kd1_5 hk2) (by omega) (by rw [up_n (by omega), up_n (by omega)]; omega)) (kd1_5 hk) rfl (by decide) q_255 q_238 q_239 q_3 q_240 yd_X4_copyFrom rfl ⟨⟨rfl, rfl⟩, ⟨(Nat.le_of_ble_eq_true rfl), (Nat.le_of_ble_eq_true rfl)⟩, Nat.le_refl _, Nat.le_refl _⟩ rfl (Nat.le_of_ble_eq_true rfl) hl.1 dX1_copyFrom_30 (fun H locs h => ?_)
  refine lv_aload_n hx hb dX1_copyFrom_33 rfl (lv_at hl 0 rfl) ?_
  refine g_greatests S hK h hk q_65 dX1_copyFrom_34 ?_
  refine lv_aload_n hx hb dX1_copyFrom_37 rfl (lv_at hl 1 rfl) ?_
  refine g_greatests S hK h hk2 q_65 dX1_copyFrom_38 ?_
  refine q_V0 (ci := 4) S hI hK h [.ref (ad L (k2 + 7))] (c_X4_copyFrom l L (up (up (up σ (k + 1) (σ (k2 + 1))) (k + 3) ((up σ (k + 1) (σ (k2 + 1))) (k2 + 3))) (k + 5) ((up (up σ (k + 1) (σ (k2 + 1))) (k + 3) ((up σ (k + 1) (σ (k2 + 1))) (k2 + 3))) (k2 + 5))) (kd1_7 hk) (kd1_7 hk2) (by omega) (by rw [up_n (by omega), up_n (by omega), up_n (by omega)]; omega)) (kd1_7 hk) rfl (by decide) q_255 q_238 q_239 q_3 q_240 yd_X4_copyFrom rfl ⟨⟨rfl, rfl⟩, ⟨(Nat.le_of_ble_eq_true rfl), (Nat.le_of_ble_eq_true rfl)⟩, Nat.le_refl _, Nat.le_refl _⟩ rfl (Nat.le_of_ble_eq_true rfl) hl.1 dX1_copyFrom_41 (fun H locs h => ?_)
  exact e_v S hK h hr hlk dX1_copyFrom_44 (fin_p hp rfl (hset_of ⟨by simp [up, e1], by rw [up_n (by omega), up_n (by omega), up_s, up_n (by omega), e3], by rw [up_n (by omega), up_s, up_n (by omega), up_n (by omega), e5], by rw [up_s, up_n (by omega), up_n (by omega), up_n (by omega), e7]⟩ (fun j h1 h3 h5 h7 => by simp [up, h1, h3, h5, h7])))

abbrev rX1_appendAll : Room := { frames := 2, cells := 0, slots := 0, locals := 43 }
theorem yd_X1_appendAll : ydV yX1_appendAll RX1 1 := ⟨rfl, by decide +kernel, by decide +kernel, by decide +kernel⟩
set_option maxHeartbeats 4000000 in
set_option maxRecDepth 100000 in
theorem c_X1_appendAll (l : Launch) (L : Lay) (σ : St) {k k2 : Nat} {A A2 : List Hp} (hk : kd k = 1) (hk2 : kd k2 = 1) (hkk : k2 ≠ k) (hv : HV σ k A) (hv2 : HV σ k2 A2) (hlen : A.length + A2.length ≤ 200) : Mf l L yX1_appendAll (Cond.code yX1_appendAll cX1_appendAll 2 none :: qA) rX1_appendAll [.ref (ad L k), .ref (ad L k2)] σ none (hset σ k (A ++ A2)) := by
  refine Mf.ofW (by decide) (Nat.le_of_ble_eq_true rfl) ?_
  intro p e s m args below meth c ls post hp hI S hr hlk hK h hl
  have hx := S.1
  have hb := S.2.1
  have hok := h.ok
  have hl : lv_has ls 2 [(0, .ref (ad L k)), (1, .ref (ad L k2))] := hl
  have hap := kd11 hk hk2 (Ne.symm hkk)
  obtain ⟨hl1, hl3, hl5, hl7⟩ := hv.len
  obtain ⟨gl1, gl3, gl5, gl7⟩ := hv2.len
  obtain ⟨e1, e3, e5, e7⟩ := hv
  obtain ⟨f1, f3, f5, f7⟩ := hv2
  have hc := kd_1h k (kd_of hk) hk
  refine lv_aload_n hx hb dX1_appendAll_0 rfl (lv_at hl 0 rfl) ?_
  refine g_weights S hK h hk q_56 dX1_appendAll_1 ?_
  refine lv_aload_n hx hb dX1_appendAll_4 rfl (lv_at hl 1 rfl) ?_
  refine g_weights S hK h hk2 q_56 dX1_appendAll_5 ?_
  refine q_V0 (ci := 4) S hI hK h [.ref (ad L (k2 + 1))] (c_X4_appendAll l L σ (kd1_1 hk) (kd1_1 hk2) (by omega) (by omega)) (kd1_1 hk) rfl (by decide) q_353 q_354 q_355 q_3 q_356 yd_X4_appendAll rfl ⟨⟨rfl, rfl⟩, ⟨(Nat.le_of_ble_eq_true rfl), (Nat.le_of_ble_eq_true rfl)⟩, Nat.le_refl _, Nat.le_refl _⟩ rfl (Nat.le_of_ble_eq_true rfl) hl.1 dX1_appendAll_8 (fun H locs h => ?_)
  refine lv_aload_n hx hb dX1_appendAll_11 rfl (lv_at hl 0 rfl) ?_
  refine g_sums S hK h hk q_59 dX1_appendAll_12 ?_
  refine lv_aload_n hx hb dX1_appendAll_15 rfl (lv_at hl 1 rfl) ?_
  refine g_sums S hK h hk2 q_59 dX1_appendAll_16 ?_
  refine q_V0 (ci := 4) S hI hK h [.ref (ad L (k2 + 3))] (c_X4_appendAll l L (up σ (k + 1) ((σ (k + 1)) ++ (σ (k2 + 1)))) (kd1_3 hk) (kd1_3 hk2) (by omega) (by rw [up_n (by omega), up_n (by omega)]; omega)) (kd1_3 hk) rfl (by decide) q_353 q_354 q_355 q_3 q_356 yd_X4_appendAll rfl ⟨⟨rfl, rfl⟩, ⟨(Nat.le_of_ble_eq_true rfl), (Nat.le_of_ble_eq_true rfl)⟩, Nat.le_refl _, Nat.le_refl _⟩ rfl (Nat.le_of_ble_eq_true rfl) hl.1 dX1_appendAll_19 (fun H locs h => ?_)
  refine lv_aload_n hx hb dX1_appendAll_22 rfl (lv_at hl 0 rfl) ?_
  refine g_leasts S hK h hk q_62 dX1_appendAll_23 ?_
  refine lv_aload_n hx hb dX1_appendAll_26 rfl (lv_at hl 1 rfl) ?_
  refine g_leasts S hK h hk2 q_62 dX1_appendAll_27 ?_
  refine q_V0 (ci := 4) S hI hK h [.ref (ad L (k2 + 5))] (c_X4_appendAll l L (up (up σ (k + 1) ((σ (k + 1)) ++ (σ (k2 + 1)))) (k + 3) (((up σ (k + 1) ((σ (k + 1)) ++ (σ (k2 + 1)))) (k + 3)) ++ ((up σ (k + 1) ((σ (k + 1)) ++ (σ (k2 + 1)))) (k2 + 3)))) (kd1_5 hk) (kd1_5 hk2) (by omega) (by rw [up_n (by omega), up_n (by omega), up_n (by omega), up_n (by omega)]; omega)) (kd1_5 hk) rfl (by decide) q_353 q_354 q_355 q_3 q_356 yd_X4_appendAll rfl ⟨⟨rfl, rfl⟩, ⟨(Nat.le_of_ble_eq_true rfl), (Nat.le_of_ble_eq_true rfl)⟩, Nat.le_refl _, Nat.le_refl _⟩ rfl (Nat.le_of_ble_eq_true rfl) hl.1 dX1_appendAll_30 (fun H locs h => ?_)
  refine lv_aload_n hx hb dX1_appendAll_33 rfl (lv_at hl 0 rfl) ?_
  refine g_greatests S hK h hk q_65 dX1_appendAll_34 ?_
  refine lv_aload_n hx hb dX1_appendAll_37 rfl (lv_at hl 1 rfl) ?_
  refine g_greatests S hK h hk2 q_65 dX1_appendAll_38 ?_
  refine q_V0 (ci := 4) S hI hK h [.ref (ad L (k2 + 7))] (c_X4_appendAll l L (up (up (up σ (k + 1) ((σ (k + 1)) ++ (σ (k2 + 1)))) (k + 3) (((up σ (k + 1) ((σ (k + 1)) ++ (σ (k2 + 1)))) (k + 3)) ++ ((up σ (k + 1) ((σ (k + 1)) ++ (σ (k2 + 1)))) (k2 + 3)))) (k + 5) (((up (up σ (k + 1) ((σ (k + 1)) ++ (σ (k2 + 1)))) (k + 3) (((up σ (k + 1) ((σ (k + 1)) ++ (σ (k2 + 1)))) (k + 3)) ++ ((up σ (k + 1) ((σ (k + 1)) ++ (σ (k2 + 1)))) (k2 + 3)))) (k + 5)) ++ ((up (up σ (k + 1) ((σ (k + 1)) ++ (σ (k2 + 1)))) (k + 3) (((up σ (k + 1) ((σ (k + 1)) ++ (σ (k2 + 1)))) (k + 3)) ++ ((up σ (k + 1) ((σ (k + 1)) ++ (σ (k2 + 1)))) (k2 + 3)))) (k2 + 5)))) (kd1_7 hk) (kd1_7 hk2) (by omega) (by rw [up_n (by omega), up_n (by omega), up_n (by omega), up_n (by omega), up_n (by omega), up_n (by omega)]; omega)) (kd1_7 hk) rfl (by decide) q_353 q_354 q_355 q_3 q_356 yd_X4_appendAll rfl ⟨⟨rfl, rfl⟩, ⟨(Nat.le_of_ble_eq_true rfl), (Nat.le_of_ble_eq_true rfl)⟩, Nat.le_refl _, Nat.le_refl _⟩ rfl (Nat.le_of_ble_eq_true rfl) hl.1 dX1_appendAll_41 (fun H locs h => ?_)
  exact e_v S hK h hr hlk dX1_appendAll_44 (fin_p hp rfl (hset_of ⟨by rw [up_n (by omega), up_n (by omega), up_n (by omega), up_s, e1, f1, List.map_append], by rw [up_n (by omega), up_n (by omega), up_s, up_n (by omega), up_n (by omega), e3, f3, List.map_append], by rw [up_n (by omega), up_s, up_n (by omega), up_n (by omega), up_n (by omega), up_n (by omega), e5, f5, List.map_append], by rw [up_s, up_n (by omega), up_n (by omega), up_n (by omega), up_n (by omega), up_n (by omega), up_n (by omega), e7, f7, List.map_append]⟩ (fun j h1 h3 h5 h7 => by simp [up, h1, h3, h5, h7])))

abbrev rX1_appendEach : Room := { frames := 1, cells := 0, slots := 0, locals := 21 }
theorem yd_X1_appendEach : ydV yX1_appendEach RX1 1 := ⟨rfl, by decide +kernel, by decide +kernel, by decide +kernel⟩
set_option maxHeartbeats 4000000 in
set_option maxRecDepth 100000 in
theorem c_X1_appendEach (l : Launch) (L : Lay) (σ : St) {k k2 : Nat} {A : List Hp} (hk : kd k = 1) (hk2 : kd k2 = 4) (n1 : k2 ≠ k + 1) (n3 : k2 ≠ k + 3) (n5 : k2 ≠ k + 5) (n7 : k2 ≠ k + 7) (hv : HV σ k A) (hlen : A.length + (σ k2).length ≤ 200) : Mf l L yX1_appendEach (Cond.code yX1_appendEach cX1_appendEach 4 none :: qA) rX1_appendEach [.ref (ad L k), .ref (ad L k2)] σ none (hset σ k (A ++ (σ k2).map hunit)) := by
  refine Mf.ofW (by decide) (Nat.le_of_ble_eq_true rfl) ?_
  intro p e s m args below meth c ls post hp hI S hr hlk hK h hl
  have hx := S.1
  have hb := S.2.1
  have hok := h.ok
  have hl : lv_has ls 4 [(0, .ref (ad L k)), (1, .ref (ad L k2))] := hl
  have hc := kd_1h k (kd_of hk) hk
  have hA := hv.le hok hk
  have hB := hok.len hk2
  refine lv_iconst (v := (nI 0)) hx hb dX1_appendEach_0 (by decide) ?_
  refine lv_istore_n (lv' := [(2, .int (nI 0)), (0, .ref (ad L k)), (1, .ref (ad L k2))]) hx hb dX1_appendEach_1 rfl hl (by decide) rfl (fun ls hl => ?_)
  have LP_2 : ∀ (n_2 : Nat) (i : Nat) (σ1 : St), (i ≤ (σ k2).length) → (σ1 = hset σ k (A ++ ((σ k2).take i).map hunit)) → (σ k2).length - i < n_2 → ∀ (H : Heap) (locs : List Loc) (ls : Array Slot), Hd L s.heap H σ1 locs → lv_has ls 4 [(2, .int (nI i)), (0, .ref (ad L k)), (1, .ref (ad L k2))] → W p l e rX1_appendEach s m args below meth c H locs 0 0 (MQ below (Qg post (bs L) (Aw L)) args s 0 0 (Aw L)) (F0 m 2 ls []) := by
    intro n_2
    induction n_2 with
    | zero => intro i σ1; intros; omega
    | succ n_2 ih_2 =>
      intro i σ1 hi hσ hm_2 H locs ls h hl
      have hok := h.ok
      have hv1 : HV σ1 k (A ++ ((σ k2).take i).map hunit) := by rw [hσ]; exact HV.hset
      have e2 : σ1 k2 = σ k2 := by rw [hσ, hset_n n1 n3 n5 n7]
      obtain ⟨hl1, hl3, hl5, hl7⟩ := hv1.len
      have hll : (A ++ ((σ k2).take i).map hunit).length = A.length + i := by rw [List.length_append, List.length_map, List.length_take]; omega
      obtain ⟨e1, e3, e5, e7⟩ := hv1
      refine lv_iload_n hx hb dX1_appendEach_2 rfl (lv_at hl 0 rfl) ?_
      refine lv_aload_n hx hb dX1_appendEach_3 rfl (lv_at hl 2 rfl) ?_
      refine q_V1 (ci := 4) S hI hK h [] (c_X4_length l L σ1 hk2) hk2 rfl (by decide) q_270 q_217 q_218 q_3 q_219 yd_X4_length rfl ⟨⟨rfl, rfl⟩, ⟨(Nat.le_of_ble_eq_true rfl), (Nat.le_of_ble_eq_true rfl)⟩, Nat.le_refl _, Nat.le_refl _⟩ rfl (Nat.le_of_ble_eq_true rfl) hl.1 dX1_appendEach_4 (fun H locs h => ?_)
      refine cv_i (show (nI ((σ1 k2).length) : Int32) = nI ((σ k2).length) from (by rw [e2])) ?_
      refine b_icmp_ge (tgt := 54) hx hb dX1_appendEach_7 (by decide) (by omega) (by omega) (fun c_7 => ?_) (fun c_7 => ?_)
      · have e4 : i = (σ k2).length := by omega
        exact e_v S hK h hr hlk dX1_appendEach_54 (fin_p hp rfl (by rw [hσ, e4, List.take_of_length_le (Nat.le_refl _)]))
      · refine lv_aload_n hx hb dX1_appendEach_10 rfl (lv_at hl 2 rfl) ?_
        refine lv_iload_n hx hb dX1_appendEach_11 rfl (lv_at hl 0 rfl) ?_
        refine q_V1 (ci := 4) S hI hK h [.int (nI i)] (c_X4_at l L σ1 hk2 (by omega)) hk2 rfl (by decide) q_271 q_213 q_214 q_3 q_215 yd_X4_at rfl ⟨⟨rfl, rfl⟩, ⟨(Nat.le_of_ble_eq_true rfl), (Nat.le_of_ble_eq_true rfl)⟩, Nat.le_refl _, Nat.le_refl _⟩ rfl (Nat.le_of_ble_eq_true rfl) hl.1 dX1_appendEach_12 (fun H locs h => ?_)
        refine cv_i (show ((σ1 k2).getD i 0 : Int32) = (σ k2).getD i 0 from (by rw [e2])) ?_
        refine lv_istore_n (lv' := [(3, .int ((σ k2).getD i 0)), (2, .int (nI i)), (0, .ref (ad L k)), (1, .ref (ad L k2))]) hx hb dX1_appendEach_15 rfl hl (by decide) rfl (fun ls hl => ?_)
        refine lv_aload_n hx hb dX1_appendEach_16 rfl (lv_at hl 2 rfl) ?_
        refine g_weights S hK h hk q_56 dX1_appendEach_17 ?_
        refine lv_iconst (v := (nI 1)) hx hb dX1_appendEach_20 (by decide) ?_
        refine q_V0 (ci := 4) S hI hK h [.int (nI 1)] (c_X4_append l L σ1 (kd1_1 hk) (by omega) (nI 1)) (kd1_1 hk) rfl (by decide) q_272 q_97 q_98 q_3 q_99 yd_X4_append rfl ⟨⟨rfl, rfl⟩, ⟨(Nat.le_of_ble_eq_true rfl), (Nat.le_of_ble_eq_true rfl)⟩, Nat.le_refl _, Nat.le_refl _⟩ rfl (Nat.le_of_ble_eq_true rfl) hl.1 dX1_appendEach_21 (fun H locs h => ?_)
        refine lv_aload_n hx hb dX1_appendEach_24 rfl (lv_at hl 2 rfl) ?_
        refine g_sums S hK h hk q_59 dX1_appendEach_25 ?_
        refine lv_iload_n hx hb dX1_appendEach_28 rfl (lv_at hl 0 rfl) ?_
        refine q_V0 (ci := 4) S hI hK h [.int ((σ k2).getD i 0)] (c_X4_append l L (up σ1 (k + 1) ((σ1 (k + 1)) ++ [nI 1])) (kd1_3 hk) (by rw [up_n (by omega)]; omega) ((σ k2).getD i 0)) (kd1_3 hk) rfl (by decide) q_272 q_97 q_98 q_3 q_99 yd_X4_append rfl ⟨⟨rfl, rfl⟩, ⟨(Nat.le_of_ble_eq_true rfl), (Nat.le_of_ble_eq_true rfl)⟩, Nat.le_refl _, Nat.le_refl _⟩ rfl (Nat.le_of_ble_eq_true rfl) hl.1 dX1_appendEach_29 (fun H locs h => ?_)
        refine lv_aload_n hx hb dX1_appendEach_32 rfl (lv_at hl 2 rfl) ?_
        refine g_leasts S hK h hk q_62 dX1_appendEach_33 ?_
        refine lv_iload_n hx hb dX1_appendEach_36 rfl (lv_at hl 0 rfl) ?_
        refine q_V0 (ci := 4) S hI hK h [.int ((σ k2).getD i 0)] (c_X4_append l L (up (up σ1 (k + 1) ((σ1 (k + 1)) ++ [nI 1])) (k + 3) (((up σ1 (k + 1) ((σ1 (k + 1)) ++ [nI 1])) (k + 3)) ++ [(σ k2).getD i 0])) (kd1_5 hk) (by rw [up_n (by omega), up_n (by omega)]; omega) ((σ k2).getD i 0)) (kd1_5 hk) rfl (by decide) q_272 q_97 q_98 q_3 q_99 yd_X4_append rfl ⟨⟨rfl, rfl⟩, ⟨(Nat.le_of_ble_eq_true rfl), (Nat.le_of_ble_eq_true rfl)⟩, Nat.le_refl _, Nat.le_refl _⟩ rfl (Nat.le_of_ble_eq_true rfl) hl.1 dX1_appendEach_37 (fun H locs h => ?_)
        refine lv_aload_n hx hb dX1_appendEach_40 rfl (lv_at hl 2 rfl) ?_
        refine g_greatests S hK h hk q_65 dX1_appendEach_41 ?_
        refine lv_iload_n hx hb dX1_appendEach_44 rfl (lv_at hl 0 rfl) ?_
        refine q_V0 (ci := 4) S hI hK h [.int ((σ k2).getD i 0)] (c_X4_append l L (up (up (up σ1 (k + 1) ((σ1 (k + 1)) ++ [nI 1])) (k + 3) (((up σ1 (k + 1) ((σ1 (k + 1)) ++ [nI 1])) (k + 3)) ++ [(σ k2).getD i 0])) (k + 5) (((up (up σ1 (k + 1) ((σ1 (k + 1)) ++ [nI 1])) (k + 3) (((up σ1 (k + 1) ((σ1 (k + 1)) ++ [nI 1])) (k + 3)) ++ [(σ k2).getD i 0])) (k + 5)) ++ [(σ k2).getD i 0])) (kd1_7 hk) (by rw [up_n (by omega), up_n (by omega), up_n (by omega)]; omega) ((σ k2).getD i 0)) (kd1_7 hk) rfl (by decide) q_272 q_97 q_98 q_3 q_99 yd_X4_append rfl ⟨⟨rfl, rfl⟩, ⟨(Nat.le_of_ble_eq_true rfl), (Nat.le_of_ble_eq_true rfl)⟩, Nat.le_refl _, Nat.le_refl _⟩ rfl (Nat.le_of_ble_eq_true rfl) hl.1 dX1_appendEach_45 (fun H locs h => ?_)
        have h := h.to (show up (up (up (up σ1 (k + 1) ((σ1 (k + 1)) ++ [nI 1])) (k + 3) (((up σ1 (k + 1) ((σ1 (k + 1)) ++ [nI 1])) (k + 3)) ++ [(σ k2).getD i 0])) (k + 5) (((up (up σ1 (k + 1) ((σ1 (k + 1)) ++ [nI 1])) (k + 3) (((up σ1 (k + 1) ((σ1 (k + 1)) ++ [nI 1])) (k + 3)) ++ [(σ k2).getD i 0])) (k + 5)) ++ [(σ k2).getD i 0])) (k + 7) (((up (up (up σ1 (k + 1) ((σ1 (k + 1)) ++ [nI 1])) (k + 3) (((up σ1 (k + 1) ((σ1 (k + 1)) ++ [nI 1])) (k + 3)) ++ [(σ k2).getD i 0])) (k + 5) (((up (up σ1 (k + 1) ((σ1 (k + 1)) ++ [nI 1])) (k + 3) (((up σ1 (k + 1) ((σ1 (k + 1)) ++ [nI 1])) (k + 3)) ++ [(σ k2).getD i 0])) (k + 5)) ++ [(σ k2).getD i 0])) (k + 7)) ++ [(σ k2).getD i 0]) = hset σ k (A ++ ((σ k2).take (i + 1)).map hunit) from (by rw [← take_snoc (d := 0) c_7, List.map_append, ← List.append_assoc]; refine (hset_of ⟨?_, ?_, ?_, ?_⟩ (fun j h1 h3 h5 h7 => ?_)); (rw [up_n (by omega), up_n (by omega), up_n (by omega), up_s, List.map_append, ← e1]; rfl); (rw [up_n (by omega), up_n (by omega), up_s, up_n (by omega), List.map_append, ← e3]; rfl); (rw [up_n (by omega), up_s, up_n (by omega), up_n (by omega), List.map_append, ← e5]; rfl); (rw [up_s, up_n (by omega), up_n (by omega), up_n (by omega), List.map_append, ← e7]; rfl); (rw [up_n h7, up_n h5, up_n h3, up_n h1, hσ, hset_n h1 h3 h5 h7])))
        refine lv_iinc (v := (nI (i + 1))) (lv' := [(2, .int (nI (i + 1))), (3, .int ((σ k2).getD i 0)), (0, .ref (ad L k)), (1, .ref (ad L k2))]) hx hb dX1_appendEach_48 hl (k := 1) rfl (iinc_1 _) (by decide) rfl (fun ls hl => ?_)
        refine lv_goto (tgt := 2) hx hb dX1_appendEach_51 (by decide) ?_
        exact ih_2 (i + 1) (hset σ k (A ++ ((σ k2).take (i + 1)).map hunit)) (by omega) rfl (by omega) _ _ _ h (lv_sub hl [0, 2, 3] rfl)
  exact LP_2 _ 0 σ (by omega) (by rw [List.take_zero, List.map_nil, List.append_nil, hset_id hv]) (Nat.lt_succ_self _) _ _ _ h (lv_sub hl [0, 1, 2] rfl)

abbrev rX1_wholeMiddle : Room := { frames := 1, cells := 0, slots := 0, locals := 21 }
theorem yd_X1_wholeMiddle : ydV yX1_wholeMiddle RX1 1 := ⟨rfl, by decide +kernel, by decide +kernel, by decide +kernel⟩
set_option maxHeartbeats 4000000 in
set_option maxRecDepth 100000 in
theorem c_X1_wholeMiddle (l : Launch) (L : Lay) (σ : St) {k : Nat} {A : List Hp} (hk : kd k = 1) (hv : HV σ k A) {j : Nat} (hj : j < 2 ^ 31) : Mf l L yX1_wholeMiddle (Cond.code yX1_wholeMiddle cX1_wholeMiddle 3 (some FieldType.int) :: qA) rX1_wholeMiddle [.ref (ad L k), .int (nI j)] σ (some (.int (if 0 < h_w (A.getD j hd0) then h_s (A.getD j hd0) / h_w (A.getD j hd0) else 0))) σ := by
  refine Mf.ofW (by decide) (Nat.le_of_ble_eq_true rfl) ?_
  intro p e s m args below meth c ls post hp hI S hr hlk hK h hl
  have hx := S.1
  have hb := S.2.1
  have hok := h.ok
  have hl : lv_has ls 3 [(0, .ref (ad L k)), (1, .int (nI j))] := hl
  refine lv_aload_n hx hb dX1_wholeMiddle_0 rfl (lv_at hl 0 rfl) ?_
  refine g_weights S hK h hk q_56 dX1_wholeMiddle_1 ?_
  refine lv_iload_n hx hb dX1_wholeMiddle_4 rfl (lv_at hl 1 rfl) ?_
  refine q_V1 (ci := 4) S hI hK h [.int (nI j)] (c_X4_at l L σ (kd1_1 hk) (by omega)) (kd1_1 hk) rfl (by decide) q_271 q_213 q_214 q_3 q_215 yd_X4_at rfl ⟨⟨rfl, rfl⟩, ⟨(Nat.le_of_ble_eq_true rfl), (Nat.le_of_ble_eq_true rfl)⟩, Nat.le_refl _, Nat.le_refl _⟩ rfl (Nat.le_of_ble_eq_true rfl) hl.1 dX1_wholeMiddle_5 (fun H locs h => ?_)
  refine cv_i (show ((σ (k + 1)).getD j 0 : Int32) = h_w (A.getD j hd0) from (hv.w _)) ?_
  refine lv_istore_n (lv' := [(2, .int (h_w (A.getD j hd0))), (0, .ref (ad L k)), (1, .int (nI j))]) hx hb dX1_wholeMiddle_8 rfl hl (by decide) rfl (fun ls hl => ?_)
  refine lv_iload_n hx hb dX1_wholeMiddle_9 rfl (lv_at hl 0 rfl) ?_
  refine lv_if_le (tgt := 26) hx hb dX1_wholeMiddle_10 (by decide) (fun c_10 => ?_) (fun c_10 => ?_)
  · refine lv_iconst (v := (nI 0)) hx hb dX1_wholeMiddle_26 (by decide) ?_
    exact e_i S hK h hr hlk dX1_wholeMiddle_27 (by first | (rw [if_pos (Int32.not_le.mp c_10)] at hp; exact hp) | (rw [if_neg (Int32.not_lt.mpr c_10)] at hp; exact hp))
  · refine lv_aload_n hx hb dX1_wholeMiddle_13 rfl (lv_at hl 1 rfl) ?_
    refine g_sums S hK h hk q_59 dX1_wholeMiddle_14 ?_
    refine lv_iload_n hx hb dX1_wholeMiddle_17 rfl (lv_at hl 2 rfl) ?_
    refine q_V1 (ci := 4) S hI hK h [.int (nI j)] (c_X4_at l L σ (kd1_3 hk) (by omega)) (kd1_3 hk) rfl (by decide) q_271 q_213 q_214 q_3 q_215 yd_X4_at rfl ⟨⟨rfl, rfl⟩, ⟨(Nat.le_of_ble_eq_true rfl), (Nat.le_of_ble_eq_true rfl)⟩, Nat.le_refl _, Nat.le_refl _⟩ rfl (Nat.le_of_ble_eq_true rfl) hl.1 dX1_wholeMiddle_18 (fun H locs h => ?_)
    refine cv_i (show ((σ (k + 3)).getD j 0 : Int32) = h_s (A.getD j hd0) from (hv.s _)) ?_
    refine lv_iload_n hx hb dX1_wholeMiddle_21 rfl (lv_at hl 0 rfl) ?_
    refine lv_idiv hx hb dX1_wholeMiddle_22 (fun q => c_10 (by rw [q]; decide)) ?_
    refine lv_goto (tgt := 27) hx hb dX1_wholeMiddle_23 (by decide) ?_
    exact e_i S hK h hr hlk dX1_wholeMiddle_27 (by first | (rw [if_pos (Int32.not_le.mp c_10)] at hp; exact hp) | (rw [if_neg (Int32.not_lt.mpr c_10)] at hp; exact hp))

abbrev rX1_weightAheadOf : Room := { frames := 2, cells := 0, slots := 0, locals := 40 }
theorem yd_X1_weightAheadOf : ydV yX1_weightAheadOf RX1 1 := ⟨rfl, by decide +kernel, by decide +kernel, by decide +kernel⟩
set_option maxHeartbeats 4000000 in
set_option maxRecDepth 100000 in
theorem c_X1_weightAheadOf (l : Launch) (L : Lay) (σ : St) {k : Nat} {A : List Hp} (hk : kd k = 1) (hv : HV σ k A) {j : Nat} (hj : j ≤ A.length) : Mf l L yX1_weightAheadOf (Cond.code yX1_weightAheadOf cX1_weightAheadOf 4 (some FieldType.int) :: qA) rX1_weightAheadOf [.ref (ad L k), .int (nI j)] σ (some (.int (isum (A.map h_w) j))) σ := by
  refine Mf.ofW (by decide) (Nat.le_of_ble_eq_true rfl) ?_
  intro p e s m args below meth c ls post hp hI S hr hlk hK h hl
  have hx := S.1
  have hb := S.2.1
  have hok := h.ok
  have hl : lv_has ls 4 [(0, .ref (ad L k)), (1, .int (nI j))] := hl
  have hA := hv.le hok hk
  refine lv_iconst (v := (nI 0)) hx hb dX1_weightAheadOf_0 (by decide) ?_
  refine lv_istore_n (lv' := [(2, .int (nI 0)), (0, .ref (ad L k)), (1, .int (nI j))]) hx hb dX1_weightAheadOf_1 rfl hl (by decide) rfl (fun ls hl => ?_)
  refine lv_iconst (v := (nI 0)) hx hb dX1_weightAheadOf_2 (by decide) ?_
  refine lv_istore_n (lv' := [(3, .int (nI 0)), (2, .int (nI 0)), (0, .ref (ad L k)), (1, .int (nI j))]) hx hb dX1_weightAheadOf_3 rfl hl (by decide) rfl (fun ls hl => ?_)
  have LP_4 : ∀ (n_4 : Nat) (i : Nat) (acc : Int32), (i ≤ j) → (acc = isum (A.map h_w) i) → j - i < n_4 → ∀ (H : Heap) (locs : List Loc) (ls : Array Slot), Hd L s.heap H σ locs → lv_has ls 4 [(3, .int (nI i)), (2, .int acc), (0, .ref (ad L k)), (1, .int (nI j))] → W p l e rX1_weightAheadOf s m args below meth c H locs 0 0 (MQ below (Qg post (bs L) (Aw L)) args s 0 0 (Aw L)) (F0 m 4 ls []) := by
    intro n_4
    induction n_4 with
    | zero => intro i acc; intros; omega
    | succ n_4 ih_4 =>
      intro i acc hi ha hm_4 H locs ls h hl
      have hok := h.ok
      refine lv_iload_n hx hb dX1_weightAheadOf_4 rfl (lv_at hl 0 rfl) ?_
      refine lv_iload_n hx hb dX1_weightAheadOf_5 rfl (lv_at hl 3 rfl) ?_
      refine b_icmp_ge (tgt := 34) hx hb dX1_weightAheadOf_6 (by decide) (by omega) (by omega) (fun c_6 => ?_) (fun c_6 => ?_)
      · have e4 : i = j := by omega
        refine lv_iload_n hx hb dX1_weightAheadOf_34 rfl (lv_at hl 1 rfl) ?_
        exact e_i S hK h hr hlk dX1_weightAheadOf_35 (fin_p hp (by rw [ha, e4]) rfl)
      · refine lv_iload_n hx hb dX1_weightAheadOf_9 rfl (lv_at hl 0 rfl) ?_
        refine lv_aload_n hx hb dX1_weightAheadOf_10 rfl (lv_at hl 2 rfl) ?_
        refine q_V1 (ci := 1) S hI hK h [] (c_X1_size l L σ hk hv) hk rfl (by decide) q_285 q_286 q_287 q_6 q_288 yd_X1_size rfl ⟨⟨rfl, rfl⟩, ⟨(Nat.le_of_ble_eq_true rfl), (Nat.le_of_ble_eq_true rfl)⟩, Nat.le_refl _, Nat.le_refl _⟩ rfl (Nat.le_of_ble_eq_true rfl) hl.1 dX1_weightAheadOf_11 (fun H locs h => ?_)
        refine b_icmp_ge (tgt := 34) hx hb dX1_weightAheadOf_14 (by decide) (by omega) (by omega) (fun c_14 => absurd c_14 (by omega)) (fun c_14 => ?_)
        refine lv_iload_n hx hb dX1_weightAheadOf_17 rfl (lv_at hl 1 rfl) ?_
        refine lv_aload_n hx hb dX1_weightAheadOf_18 rfl (lv_at hl 2 rfl) ?_
        refine g_weights S hK h hk q_56 dX1_weightAheadOf_19 ?_
        refine lv_iload_n hx hb dX1_weightAheadOf_22 rfl (lv_at hl 0 rfl) ?_
        refine q_V1 (ci := 4) S hI hK h [.int (nI i)] (c_X4_at l L σ (kd1_1 hk) (by omega)) (kd1_1 hk) rfl (by decide) q_271 q_213 q_214 q_3 q_215 yd_X4_at rfl ⟨⟨rfl, rfl⟩, ⟨(Nat.le_of_ble_eq_true rfl), (Nat.le_of_ble_eq_true rfl)⟩, Nat.le_refl _, Nat.le_refl _⟩ rfl (Nat.le_of_ble_eq_true rfl) hl.1 dX1_weightAheadOf_23 (fun H locs h => ?_)
        refine lv_iadd hx hb dX1_weightAheadOf_26 ?_
        refine lv_istore_n (lv' := [(2, .int (acc + ((σ (k + 1)).getD i 0))), (3, .int (nI i)), (0, .ref (ad L k)), (1, .int (nI j))]) hx hb dX1_weightAheadOf_27 rfl hl (by decide) rfl (fun ls hl => ?_)
        refine lv_iinc (v := (nI (i + 1))) (lv' := [(3, .int (nI (i + 1))), (2, .int (acc + ((σ (k + 1)).getD i 0))), (0, .ref (ad L k)), (1, .int (nI j))]) hx hb dX1_weightAheadOf_28 hl (k := 1) rfl (iinc_1 _) (by decide) rfl (fun ls hl => ?_)
        refine lv_goto (tgt := 4) hx hb dX1_weightAheadOf_31 (by decide) ?_
        exact ih_4 (i + 1) (acc + ((σ (k + 1)).getD i 0)) (by omega) (by rw [ha, hv.1]; rfl) (by omega) _ _ _ h (lv_sub hl [0, 1, 2, 3] rfl)
  exact LP_4 _ 0 (nI 0) (by omega) rfl (Nat.lt_succ_self _) _ _ _ h (lv_sub hl [0, 1, 2, 3] rfl)

abbrev rX1_isMiddleAbove : Room := { frames := 1, cells := 0, slots := 0, locals := 21 }
theorem yd_X1_isMiddleAbove : ydV yX1_isMiddleAbove RX1 2 := ⟨rfl, by decide +kernel, by decide +kernel, by decide +kernel⟩
set_option maxHeartbeats 4000000 in
set_option maxRecDepth 100000 in
theorem c_X1_isMiddleAbove (l : Launch) (L : Lay) (σ : St) {k : Nat} {A : List Hp} (hk : kd k = 1) (hv : HV σ k A) {i j : Nat} (hi : i < 2 ^ 31) (hj : j < 2 ^ 31) : Mf l L yX1_isMiddleAbove (Cond.code yX1_isMiddleAbove cX1_isMiddleAbove 7 (some FieldType.boolean) :: qA) rX1_isMiddleAbove [.ref (ad L k), .int (nI i), .int (nI j)] σ (some (.int (if gtH (A.getD i hd0) (A.getD j hd0) = true then 1 else 0))) σ := by
  refine Mf.ofW (by decide) (Nat.le_of_ble_eq_true rfl) ?_
  intro p e s m args below meth c ls post hp hI S hr hlk hK h hl
  have hx := S.1
  have hb := S.2.1
  have hok := h.ok
  have hl : lv_has ls 7 [(0, .ref (ad L k)), (1, .int (nI i)), (2, .int (nI j))] := hl
  refine lv_aload_n hx hb dX1_isMiddleAbove_0 rfl (lv_at hl 0 rfl) ?_
  refine g_sums S hK h hk q_59 dX1_isMiddleAbove_1 ?_
  refine lv_iload_n hx hb dX1_isMiddleAbove_4 rfl (lv_at hl 1 rfl) ?_
  refine q_V1 (ci := 4) S hI hK h [.int (nI i)] (c_X4_at l L σ (kd1_3 hk) (by omega)) (kd1_3 hk) rfl (by decide) q_271 q_213 q_214 q_3 q_215 yd_X4_at rfl ⟨⟨rfl, rfl⟩, ⟨(Nat.le_of_ble_eq_true rfl), (Nat.le_of_ble_eq_true rfl)⟩, Nat.le_refl _, Nat.le_refl _⟩ rfl (Nat.le_of_ble_eq_true rfl) hl.1 dX1_isMiddleAbove_5 (fun H locs h => ?_)
  refine cv_i (show ((σ (k + 3)).getD i 0 : Int32) = h_s (A.getD i hd0) from (hv.s _)) ?_
  refine lv_i2l (v := (h_s (A.getD i hd0)).toInt64) hx hb dX1_isMiddleAbove_8 rfl ?_
  refine lv_aload_n hx hb dX1_isMiddleAbove_9 rfl (lv_at hl 0 rfl) ?_
  refine g_weights S hK h hk q_56 dX1_isMiddleAbove_10 ?_
  refine lv_iload_n hx hb dX1_isMiddleAbove_13 rfl (lv_at hl 2 rfl) ?_
  refine q_V1 (ci := 4) S hI hK h [.int (nI j)] (c_X4_at l L σ (kd1_1 hk) (by omega)) (kd1_1 hk) rfl (by decide) q_271 q_213 q_214 q_3 q_215 yd_X4_at rfl ⟨⟨rfl, rfl⟩, ⟨(Nat.le_of_ble_eq_true rfl), (Nat.le_of_ble_eq_true rfl)⟩, Nat.le_refl _, Nat.le_refl _⟩ rfl (Nat.le_of_ble_eq_true rfl) hl.1 dX1_isMiddleAbove_14 (fun H locs h => ?_)
  refine cv_i (show ((σ (k + 1)).getD j 0 : Int32) = h_w (A.getD j hd0) from (hv.w _)) ?_
  refine lv_i2l (v := (h_w (A.getD j hd0)).toInt64) hx hb dX1_isMiddleAbove_17 rfl ?_
  refine lv_lmul hx hb dX1_isMiddleAbove_18 ?_
  refine lv_topl (fun x1 e_x1 => ?_)
  refine lv_lstore_n (lv' := [(3, .long x1), (0, .ref (ad L k)), (1, .int (nI i)), (2, .int (nI j))]) hx hb dX1_isMiddleAbove_19 rfl hl (by decide) rfl (fun ls hl => ?_)
  refine lv_aload_n hx hb dX1_isMiddleAbove_20 rfl (lv_at hl 1 rfl) ?_
  refine g_sums S hK h hk q_59 dX1_isMiddleAbove_21 ?_
  refine lv_iload_n hx hb dX1_isMiddleAbove_24 rfl (lv_at hl 3 rfl) ?_
  refine q_V1 (ci := 4) S hI hK h [.int (nI j)] (c_X4_at l L σ (kd1_3 hk) (by omega)) (kd1_3 hk) rfl (by decide) q_271 q_213 q_214 q_3 q_215 yd_X4_at rfl ⟨⟨rfl, rfl⟩, ⟨(Nat.le_of_ble_eq_true rfl), (Nat.le_of_ble_eq_true rfl)⟩, Nat.le_refl _, Nat.le_refl _⟩ rfl (Nat.le_of_ble_eq_true rfl) hl.1 dX1_isMiddleAbove_25 (fun H locs h => ?_)
  refine cv_i (show ((σ (k + 3)).getD j 0 : Int32) = h_s (A.getD j hd0) from (hv.s _)) ?_
  refine lv_i2l (v := (h_s (A.getD j hd0)).toInt64) hx hb dX1_isMiddleAbove_28 rfl ?_
  refine lv_aload_n hx hb dX1_isMiddleAbove_29 rfl (lv_at hl 1 rfl) ?_
  refine g_weights S hK h hk q_56 dX1_isMiddleAbove_30 ?_
  refine lv_iload_n hx hb dX1_isMiddleAbove_33 rfl (lv_at hl 2 rfl) ?_
  refine q_V1 (ci := 4) S hI hK h [.int (nI i)] (c_X4_at l L σ (kd1_1 hk) (by omega)) (kd1_1 hk) rfl (by decide) q_271 q_213 q_214 q_3 q_215 yd_X4_at rfl ⟨⟨rfl, rfl⟩, ⟨(Nat.le_of_ble_eq_true rfl), (Nat.le_of_ble_eq_true rfl)⟩, Nat.le_refl _, Nat.le_refl _⟩ rfl (Nat.le_of_ble_eq_true rfl) hl.1 dX1_isMiddleAbove_34 (fun H locs h => ?_)
  refine cv_i (show ((σ (k + 1)).getD i 0 : Int32) = h_w (A.getD i hd0) from (hv.w _)) ?_
  refine lv_i2l (v := (h_w (A.getD i hd0)).toInt64) hx hb dX1_isMiddleAbove_37 rfl ?_
  refine lv_lmul hx hb dX1_isMiddleAbove_38 ?_
  refine lv_topl (fun x2 e_x2 => ?_)
  refine lv_lstore (lv' := [(5, .long x2), (3, .long x1), (0, .ref (ad L k)), (1, .int (nI i)), (2, .int (nI j))]) hx hb dX1_isMiddleAbove_39 hl (by decide) rfl (fun ls hl => ?_)
  refine lv_lload_n hx hb dX1_isMiddleAbove_41 rfl (lv_at hl 1 rfl) ?_
  refine lv_lload hx hb dX1_isMiddleAbove_42 (lv_at hl 0 rfl) ?_
  refine lv_lcmpv hx hb dX1_isMiddleAbove_44 ?_
  refine lc_le (tgt := 52) hx hb dX1_isMiddleAbove_45 (by decide) (fun c_45 => ?_) (fun c_45 => ?_)
  · rw [if_neg (fun q => gtH_no e_x1 e_x2 c_45 q)] at hp
    refine lv_iconst (v := (nI 0)) hx hb dX1_isMiddleAbove_52 (by decide) ?_
    exact e_z S hK h hr hlk (Or.inl rfl) dX1_isMiddleAbove_53 hp
  · rw [if_pos (gtH_yes e_x1 e_x2 c_45)] at hp
    refine lv_iconst (v := (nI 1)) hx hb dX1_isMiddleAbove_48 (by decide) ?_
    refine lv_goto (tgt := 53) hx hb dX1_isMiddleAbove_49 (by decide) ?_
    exact e_z S hK h hr hlk (Or.inr rfl) dX1_isMiddleAbove_53 hp

abbrev rX1_exchange : Room := { frames := 1, cells := 0, slots := 0, locals := 23 }
theorem yd_X1_exchange : ydV yX1_exchange RX1 2 := ⟨rfl, by decide +kernel, by decide +kernel, by decide +kernel⟩
set_option maxHeartbeats 4000000 in
set_option maxRecDepth 100000 in
theorem c_X1_exchange (l : Launch) (L : Lay) (σ : St) {k : Nat} {A : List Hp} (hk : kd k = 1) (hv : HV σ k A) {i j : Nat} (hi : i < A.length) (hj : j < A.length) : Mf l L yX1_exchange (Cond.code yX1_exchange cX1_exchange 3 none :: qA) rX1_exchange [.ref (ad L k), .int (nI i), .int (nI j)] σ none (hset σ k (swp hd0 A i j)) := by
  refine Mf.ofW (by decide) (Nat.le_of_ble_eq_true rfl) ?_
  intro p e s m args below meth c ls post hp hI S hr hlk hK h hl
  have hx := S.1
  have hb := S.2.1
  have hok := h.ok
  have hl : lv_has ls 3 [(0, .ref (ad L k)), (1, .int (nI i)), (2, .int (nI j))] := hl
  obtain ⟨hl1, hl3, hl5, hl7⟩ := hv.len
  have hA := hv.le hok hk
  obtain ⟨e1, e3, e5, e7⟩ := hv
  refine lv_aload_n hx hb dX1_exchange_0 rfl (lv_at hl 0 rfl) ?_
  refine g_weights S hK h hk q_56 dX1_exchange_1 ?_
  refine lv_iload_n hx hb dX1_exchange_4 rfl (lv_at hl 1 rfl) ?_
  refine lv_iload_n hx hb dX1_exchange_5 rfl (lv_at hl 2 rfl) ?_
  refine q_V0 (ci := 4) S hI hK h [.int (nI i), .int (nI j)] (c_X4_exchange l L σ (kd1_1 hk) (by omega) (by omega)) (kd1_1 hk) rfl (by decide) q_297 q_298 q_299 q_3 q_300 yd_X4_exchange rfl ⟨⟨rfl, rfl⟩, ⟨(Nat.le_of_ble_eq_true rfl), (Nat.le_of_ble_eq_true rfl)⟩, Nat.le_refl _, Nat.le_refl _⟩ rfl (Nat.le_of_ble_eq_true rfl) hl.1 dX1_exchange_6 (fun H locs h => ?_)
  refine lv_aload_n hx hb dX1_exchange_9 rfl (lv_at hl 0 rfl) ?_
  refine g_sums S hK h hk q_59 dX1_exchange_10 ?_
  refine lv_iload_n hx hb dX1_exchange_13 rfl (lv_at hl 1 rfl) ?_
  refine lv_iload_n hx hb dX1_exchange_14 rfl (lv_at hl 2 rfl) ?_
  refine q_V0 (ci := 4) S hI hK h [.int (nI i), .int (nI j)] (c_X4_exchange l L (up σ (k + 1) (swp 0 (σ (k + 1)) i j)) (kd1_3 hk) (by rw [up_n (by omega)]; omega) (by rw [up_n (by omega)]; omega)) (kd1_3 hk) rfl (by decide) q_297 q_298 q_299 q_3 q_300 yd_X4_exchange rfl ⟨⟨rfl, rfl⟩, ⟨(Nat.le_of_ble_eq_true rfl), (Nat.le_of_ble_eq_true rfl)⟩, Nat.le_refl _, Nat.le_refl _⟩ rfl (Nat.le_of_ble_eq_true rfl) hl.1 dX1_exchange_15 (fun H locs h => ?_)
  refine lv_aload_n hx hb dX1_exchange_18 rfl (lv_at hl 0 rfl) ?_
  refine g_leasts S hK h hk q_62 dX1_exchange_19 ?_
  refine lv_iload_n hx hb dX1_exchange_22 rfl (lv_at hl 1 rfl) ?_
  refine lv_iload_n hx hb dX1_exchange_23 rfl (lv_at hl 2 rfl) ?_
  refine q_V0 (ci := 4) S hI hK h [.int (nI i), .int (nI j)] (c_X4_exchange l L (up (up σ (k + 1) (swp 0 (σ (k + 1)) i j)) (k + 3) (swp 0 ((up σ (k + 1) (swp 0 (σ (k + 1)) i j)) (k + 3)) i j)) (kd1_5 hk) (by rw [up_n (by omega), up_n (by omega)]; omega) (by rw [up_n (by omega), up_n (by omega)]; omega)) (kd1_5 hk) rfl (by decide) q_297 q_298 q_299 q_3 q_300 yd_X4_exchange rfl ⟨⟨rfl, rfl⟩, ⟨(Nat.le_of_ble_eq_true rfl), (Nat.le_of_ble_eq_true rfl)⟩, Nat.le_refl _, Nat.le_refl _⟩ rfl (Nat.le_of_ble_eq_true rfl) hl.1 dX1_exchange_24 (fun H locs h => ?_)
  refine lv_aload_n hx hb dX1_exchange_27 rfl (lv_at hl 0 rfl) ?_
  refine g_greatests S hK h hk q_65 dX1_exchange_28 ?_
  refine lv_iload_n hx hb dX1_exchange_31 rfl (lv_at hl 1 rfl) ?_
  refine lv_iload_n hx hb dX1_exchange_32 rfl (lv_at hl 2 rfl) ?_
  refine q_V0 (ci := 4) S hI hK h [.int (nI i), .int (nI j)] (c_X4_exchange l L (up (up (up σ (k + 1) (swp 0 (σ (k + 1)) i j)) (k + 3) (swp 0 ((up σ (k + 1) (swp 0 (σ (k + 1)) i j)) (k + 3)) i j)) (k + 5) (swp 0 ((up (up σ (k + 1) (swp 0 (σ (k + 1)) i j)) (k + 3) (swp 0 ((up σ (k + 1) (swp 0 (σ (k + 1)) i j)) (k + 3)) i j)) (k + 5)) i j)) (kd1_7 hk) (by rw [up_n (by omega), up_n (by omega), up_n (by omega)]; omega) (by rw [up_n (by omega), up_n (by omega), up_n (by omega)]; omega)) (kd1_7 hk) rfl (by decide) q_297 q_298 q_299 q_3 q_300 yd_X4_exchange rfl ⟨⟨rfl, rfl⟩, ⟨(Nat.le_of_ble_eq_true rfl), (Nat.le_of_ble_eq_true rfl)⟩, Nat.le_refl _, Nat.le_refl _⟩ rfl (Nat.le_of_ble_eq_true rfl) hl.1 dX1_exchange_33 (fun H locs h => ?_)
  exact e_v S hK h hr hlk dX1_exchange_36 (fin_p hp rfl (hset_of ⟨by rw [up_n (by omega), up_n (by omega), up_n (by omega), up_s, e1, swp_map h_w hd0], by rw [up_n (by omega), up_n (by omega), up_s, up_n (by omega), e3, swp_map h_s hd0], by rw [up_n (by omega), up_s, up_n (by omega), up_n (by omega), e5, swp_map h_l hd0], by rw [up_s, up_n (by omega), up_n (by omega), up_n (by omega), e7, swp_map h_g hd0]⟩ (fun j h1 h3 h5 h7 => by simp [up, h1, h3, h5, h7])))

abbrev rX1_unite : Room := { frames := 1, cells := 0, slots := 0, locals := 22 }
theorem yd_X1_unite : ydV yX1_unite RX1 2 := ⟨rfl, by decide +kernel, by decide +kernel, by decide +kernel⟩
set_option maxHeartbeats 4000000 in
set_option maxRecDepth 100000 in
theorem c_X1_unite (l : Launch) (L : Lay) (σ : St) {k : Nat} {A : List Hp} (hk : kd k = 1) (hv : HV σ k A) {i j : Nat} (hi : i < A.length) (hj : j < A.length) : Mf l L yX1_unite (Cond.code yX1_unite cX1_unite 3 none :: qA) rX1_unite [.ref (ad L k), .int (nI i), .int (nI j)] σ none (hset σ k (A.set i (unI (A.getD i hd0) (A.getD j hd0)))) := by
  refine Mf.ofW (by decide) (Nat.le_of_ble_eq_true rfl) ?_
  intro p e s m args below meth c ls post hp hI S hr hlk hK h hl
  have hx := S.1
  have hb := S.2.1
  have hok := h.ok
  have hl : lv_has ls 3 [(0, .ref (ad L k)), (1, .int (nI i)), (2, .int (nI j))] := hl
  obtain ⟨hl1, hl3, hl5, hl7⟩ := hv.len
  have hA := hv.le hok hk
  obtain ⟨e1, e3, e5, e7⟩ := id hv
  refine lv_aload_n hx hb dX1_unite_0 rfl (lv_at hl 0 rfl) ?_
  refine g_weights S hK h hk q_56 dX1_unite_1 ?_
  refine lv_iload_n hx hb dX1_unite_4 rfl (lv_at hl 1 rfl) ?_
  refine lv_aload_n hx hb dX1_unite_5 rfl (lv_at hl 0 rfl) ?_
  refine g_weights S hK h hk q_56 dX1_unite_6 ?_
  refine lv_iload_n hx hb dX1_unite_9 rfl (lv_at hl 1 rfl) ?_
  refine q_V1 (ci := 4) S hI hK h [.int (nI i)] (c_X4_at l L σ (kd1_1 hk) (by omega)) (kd1_1 hk) rfl (by decide) q_271 q_213 q_214 q_3 q_215 yd_X4_at rfl ⟨⟨rfl, rfl⟩, ⟨(Nat.le_of_ble_eq_true rfl), (Nat.le_of_ble_eq_true rfl)⟩, Nat.le_refl _, Nat.le_refl _⟩ rfl (Nat.le_of_ble_eq_true rfl) hl.1 dX1_unite_10 (fun H locs h => ?_)
  refine cv_i (show ((σ (k + 1)).getD i 0 : Int32) = h_w (A.getD i hd0) from (hv.w _)) ?_
  refine lv_aload_n hx hb dX1_unite_13 rfl (lv_at hl 0 rfl) ?_
  refine g_weights S hK h hk q_56 dX1_unite_14 ?_
  refine lv_iload_n hx hb dX1_unite_17 rfl (lv_at hl 2 rfl) ?_
  refine q_V1 (ci := 4) S hI hK h [.int (nI j)] (c_X4_at l L σ (kd1_1 hk) (by omega)) (kd1_1 hk) rfl (by decide) q_271 q_213 q_214 q_3 q_215 yd_X4_at rfl ⟨⟨rfl, rfl⟩, ⟨(Nat.le_of_ble_eq_true rfl), (Nat.le_of_ble_eq_true rfl)⟩, Nat.le_refl _, Nat.le_refl _⟩ rfl (Nat.le_of_ble_eq_true rfl) hl.1 dX1_unite_18 (fun H locs h => ?_)
  refine cv_i (show ((σ (k + 1)).getD j 0 : Int32) = h_w (A.getD j hd0) from (hv.w _)) ?_
  refine lv_iadd hx hb dX1_unite_21 ?_
  refine q_V0 (ci := 4) S hI hK h [.int (nI i), .int ((h_w (A.getD i hd0)) + (h_w (A.getD j hd0)))] (c_X4_put l L σ (kd1_1 hk) (by omega) ((h_w (A.getD i hd0)) + (h_w (A.getD j hd0)))) (kd1_1 hk) rfl (by decide) q_313 q_314 q_315 q_3 q_316 yd_X4_put rfl ⟨⟨rfl, rfl⟩, ⟨(Nat.le_of_ble_eq_true rfl), (Nat.le_of_ble_eq_true rfl)⟩, Nat.le_refl _, Nat.le_refl _⟩ rfl (Nat.le_of_ble_eq_true rfl) hl.1 dX1_unite_22 (fun H locs h => ?_)
  refine lv_aload_n hx hb dX1_unite_25 rfl (lv_at hl 0 rfl) ?_
  refine g_sums S hK h hk q_59 dX1_unite_26 ?_
  refine lv_iload_n hx hb dX1_unite_29 rfl (lv_at hl 1 rfl) ?_
  refine lv_aload_n hx hb dX1_unite_30 rfl (lv_at hl 0 rfl) ?_
  refine g_sums S hK h hk q_59 dX1_unite_31 ?_
  refine lv_iload_n hx hb dX1_unite_34 rfl (lv_at hl 1 rfl) ?_
  refine q_V1 (ci := 4) S hI hK h [.int (nI i)] (c_X4_at l L (up σ (k + 1) ((σ (k + 1)).set i ((h_w (A.getD i hd0)) + (h_w (A.getD j hd0))))) (kd1_3 hk) (by omega)) (kd1_3 hk) rfl (by decide) q_271 q_213 q_214 q_3 q_215 yd_X4_at rfl ⟨⟨rfl, rfl⟩, ⟨(Nat.le_of_ble_eq_true rfl), (Nat.le_of_ble_eq_true rfl)⟩, Nat.le_refl _, Nat.le_refl _⟩ rfl (Nat.le_of_ble_eq_true rfl) hl.1 dX1_unite_35 (fun H locs h => ?_)
  refine cv_i (show (((up σ (k + 1) ((σ (k + 1)).set i ((h_w (A.getD i hd0)) + (h_w (A.getD j hd0))))) (k + 3)).getD i 0 : Int32) = h_s (A.getD i hd0) from (by rw [up_n (by omega)]; exact hv.s _)) ?_
  refine lv_aload_n hx hb dX1_unite_38 rfl (lv_at hl 0 rfl) ?_
  refine g_sums S hK h hk q_59 dX1_unite_39 ?_
  refine lv_iload_n hx hb dX1_unite_42 rfl (lv_at hl 2 rfl) ?_
  refine q_V1 (ci := 4) S hI hK h [.int (nI j)] (c_X4_at l L (up σ (k + 1) ((σ (k + 1)).set i ((h_w (A.getD i hd0)) + (h_w (A.getD j hd0))))) (kd1_3 hk) (by omega)) (kd1_3 hk) rfl (by decide) q_271 q_213 q_214 q_3 q_215 yd_X4_at rfl ⟨⟨rfl, rfl⟩, ⟨(Nat.le_of_ble_eq_true rfl), (Nat.le_of_ble_eq_true rfl)⟩, Nat.le_refl _, Nat.le_refl _⟩ rfl (Nat.le_of_ble_eq_true rfl) hl.1 dX1_unite_43 (fun H locs h => ?_)
  refine cv_i (show (((up σ (k + 1) ((σ (k + 1)).set i ((h_w (A.getD i hd0)) + (h_w (A.getD j hd0))))) (k + 3)).getD j 0 : Int32) = h_s (A.getD j hd0) from (by rw [up_n (by omega)]; exact hv.s _)) ?_
  refine lv_iadd hx hb dX1_unite_46 ?_
  refine q_V0 (ci := 4) S hI hK h [.int (nI i), .int ((h_s (A.getD i hd0)) + (h_s (A.getD j hd0)))] (c_X4_put l L (up σ (k + 1) ((σ (k + 1)).set i ((h_w (A.getD i hd0)) + (h_w (A.getD j hd0))))) (kd1_3 hk) (by omega) ((h_s (A.getD i hd0)) + (h_s (A.getD j hd0)))) (kd1_3 hk) rfl (by decide) q_313 q_314 q_315 q_3 q_316 yd_X4_put rfl ⟨⟨rfl, rfl⟩, ⟨(Nat.le_of_ble_eq_true rfl), (Nat.le_of_ble_eq_true rfl)⟩, Nat.le_refl _, Nat.le_refl _⟩ rfl (Nat.le_of_ble_eq_true rfl) hl.1 dX1_unite_47 (fun H locs h => ?_)
  refine lv_aload_n hx hb dX1_unite_50 rfl (lv_at hl 0 rfl) ?_
  refine g_leasts S hK h hk q_62 dX1_unite_51 ?_
  refine lv_iload_n hx hb dX1_unite_54 rfl (lv_at hl 1 rfl) ?_
  refine lv_aload_n hx hb dX1_unite_55 rfl (lv_at hl 0 rfl) ?_
  refine g_leasts S hK h hk q_62 dX1_unite_56 ?_
  refine lv_iload_n hx hb dX1_unite_59 rfl (lv_at hl 1 rfl) ?_
  refine q_V1 (ci := 4) S hI hK h [.int (nI i)] (c_X4_at l L (up (up σ (k + 1) ((σ (k + 1)).set i ((h_w (A.getD i hd0)) + (h_w (A.getD j hd0))))) (k + 3) (((up σ (k + 1) ((σ (k + 1)).set i ((h_w (A.getD i hd0)) + (h_w (A.getD j hd0))))) (k + 3)).set i ((h_s (A.getD i hd0)) + (h_s (A.getD j hd0))))) (kd1_5 hk) (by omega)) (kd1_5 hk) rfl (by decide) q_271 q_213 q_214 q_3 q_215 yd_X4_at rfl ⟨⟨rfl, rfl⟩, ⟨(Nat.le_of_ble_eq_true rfl), (Nat.le_of_ble_eq_true rfl)⟩, Nat.le_refl _, Nat.le_refl _⟩ rfl (Nat.le_of_ble_eq_true rfl) hl.1 dX1_unite_60 (fun H locs h => ?_)
  refine cv_i (show (((up (up σ (k + 1) ((σ (k + 1)).set i ((h_w (A.getD i hd0)) + (h_w (A.getD j hd0))))) (k + 3) (((up σ (k + 1) ((σ (k + 1)).set i ((h_w (A.getD i hd0)) + (h_w (A.getD j hd0))))) (k + 3)).set i ((h_s (A.getD i hd0)) + (h_s (A.getD j hd0))))) (k + 5)).getD i 0 : Int32) = h_l (A.getD i hd0) from (by rw [up_n (by omega), up_n (by omega)]; exact hv.l _)) ?_
  refine lv_aload_n hx hb dX1_unite_63 rfl (lv_at hl 0 rfl) ?_
  refine g_leasts S hK h hk q_62 dX1_unite_64 ?_
  refine lv_iload_n hx hb dX1_unite_67 rfl (lv_at hl 2 rfl) ?_
  refine q_V1 (ci := 4) S hI hK h [.int (nI j)] (c_X4_at l L (up (up σ (k + 1) ((σ (k + 1)).set i ((h_w (A.getD i hd0)) + (h_w (A.getD j hd0))))) (k + 3) (((up σ (k + 1) ((σ (k + 1)).set i ((h_w (A.getD i hd0)) + (h_w (A.getD j hd0))))) (k + 3)).set i ((h_s (A.getD i hd0)) + (h_s (A.getD j hd0))))) (kd1_5 hk) (by omega)) (kd1_5 hk) rfl (by decide) q_271 q_213 q_214 q_3 q_215 yd_X4_at rfl ⟨⟨rfl, rfl⟩, ⟨(Nat.le_of_ble_eq_true rfl), (Nat.le_of_ble_eq_true rfl)⟩, Nat.le_refl _, Nat.le_refl _⟩ rfl (Nat.le_of_ble_eq_true rfl) hl.1 dX1_unite_68 (fun H locs h => ?_)
  refine cv_i (show (((up (up σ (k + 1) ((σ (k + 1)).set i ((h_w (A.getD i hd0)) + (h_w (A.getD j hd0))))) (k + 3) (((up σ (k + 1) ((σ (k + 1)).set i ((h_w (A.getD i hd0)) + (h_w (A.getD j hd0))))) (k + 3)).set i ((h_s (A.getD i hd0)) + (h_s (A.getD j hd0))))) (k + 5)).getD j 0 : Int32) = h_l (A.getD j hd0) from (by rw [up_n (by omega), up_n (by omega)]; exact hv.l _)) ?_
  refine va_mmin hx hb (S.2.2.1.trans hl.1.symm) S.2.2.2.1 (S.2.2.2.2 _ q_317) (S.2.2.2.2 _ q_242) (S.2.2.2.2 _ q_4) (S.2.2.2.2 _ q_243) (Nat.le_of_ble_eq_true rfl) (Nat.le_of_ble_eq_true rfl) (Nat.zero_le _) (Nat.zero_le _) dX1_unite_71 ?_
  refine q_V0 (ci := 4) S hI hK h [.int (nI i), .int (if (h_l (A.getD j hd0)) < (h_l (A.getD i hd0)) then (h_l (A.getD j hd0)) else (h_l (A.getD i hd0)))] (c_X4_put l L (up (up σ (k + 1) ((σ (k + 1)).set i ((h_w (A.getD i hd0)) + (h_w (A.getD j hd0))))) (k + 3) (((up σ (k + 1) ((σ (k + 1)).set i ((h_w (A.getD i hd0)) + (h_w (A.getD j hd0))))) (k + 3)).set i ((h_s (A.getD i hd0)) + (h_s (A.getD j hd0))))) (kd1_5 hk) (by omega) (if (h_l (A.getD j hd0)) < (h_l (A.getD i hd0)) then (h_l (A.getD j hd0)) else (h_l (A.getD i hd0)))) (kd1_5 hk) rfl (by decide) q_313 q_314 q_315 q_3 q_316 yd_X4_put rfl ⟨⟨rfl, rfl⟩, ⟨(Nat.le_of_ble_eq_true rfl), (Nat.le_of_ble_eq_true rfl)⟩, Nat.le_refl _, Nat.le_refl _⟩ rfl (Nat.le_of_ble_eq_true rfl) hl.1 dX1_unite_74 (fun H locs h => ?_)
  refine lv_aload_n hx hb dX1_unite_77 rfl (lv_at hl 0 rfl) ?_
  refine g_greatests S hK h hk q_65 dX1_unite_78 ?_
  refine lv_iload_n hx hb dX1_unite_81 rfl (lv_at hl 1 rfl) ?_
  refine lv_aload_n hx hb dX1_unite_82 rfl (lv_at hl 0 rfl) ?_
  refine g_greatests S hK h hk q_65 dX1_unite_83 ?_
  refine lv_iload_n hx hb dX1_unite_86 rfl (lv_at hl 1 rfl) ?_
  refine q_V1 (ci := 4) S hI hK h [.int (nI i)] (c_X4_at l L (up (up (up σ (k + 1) ((σ (k + 1)).set i ((h_w (A.getD i hd0)) + (h_w (A.getD j hd0))))) (k + 3) (((up σ (k + 1) ((σ (k + 1)).set i ((h_w (A.getD i hd0)) + (h_w (A.getD j hd0))))) (k + 3)).set i ((h_s (A.getD i hd0)) + (h_s (A.getD j hd0))))) (k + 5) (((up (up σ (k + 1) ((σ (k + 1)).set i ((h_w (A.getD i hd0)) + (h_w (A.getD j hd0))))) (k + 3) (((up σ (k + 1) ((σ (k + 1)).set i ((h_w (A.getD i hd0)) + (h_w (A.getD j hd0))))) (k + 3)).set i ((h_s (A.getD i hd0)) + (h_s (A.getD j hd0))))) (k + 5)).set i (if (h_l (A.getD j hd0)) < (h_l (A.getD i hd0)) then (h_l (A.getD j hd0)) else (h_l (A.getD i hd0))))) (kd1_7 hk) (by omega)) (kd1_7 hk) rfl (by decide) q_271 q_213 q_214 q_3 q_215 yd_X4_at rfl ⟨⟨rfl, rfl⟩, ⟨(Nat.le_of_ble_eq_true rfl), (Nat.le_of_ble_eq_true rfl)⟩, Nat.le_refl _, Nat.le_refl _⟩ rfl (Nat.le_of_ble_eq_true rfl) hl.1 dX1_unite_87 (fun H locs h => ?_)
  refine cv_i (show (((up (up (up σ (k + 1) ((σ (k + 1)).set i ((h_w (A.getD i hd0)) + (h_w (A.getD j hd0))))) (k + 3) (((up σ (k + 1) ((σ (k + 1)).set i ((h_w (A.getD i hd0)) + (h_w (A.getD j hd0))))) (k + 3)).set i ((h_s (A.getD i hd0)) + (h_s (A.getD j hd0))))) (k + 5) (((up (up σ (k + 1) ((σ (k + 1)).set i ((h_w (A.getD i hd0)) + (h_w (A.getD j hd0))))) (k + 3) (((up σ (k + 1) ((σ (k + 1)).set i ((h_w (A.getD i hd0)) + (h_w (A.getD j hd0))))) (k + 3)).set i ((h_s (A.getD i hd0)) + (h_s (A.getD j hd0))))) (k + 5)).set i (if (h_l (A.getD j hd0)) < (h_l (A.getD i hd0)) then (h_l (A.getD j hd0)) else (h_l (A.getD i hd0))))) (k + 7)).getD i 0 : Int32) = h_g (A.getD i hd0) from (by rw [up_n (by omega), up_n (by omega), up_n (by omega)]; exact hv.g _)) ?_
  refine lv_aload_n hx hb dX1_unite_90 rfl (lv_at hl 0 rfl) ?_
  refine g_greatests S hK h hk q_65 dX1_unite_91 ?_
  refine lv_iload_n hx hb dX1_unite_94 rfl (lv_at hl 2 rfl) ?_
  refine q_V1 (ci := 4) S hI hK h [.int (nI j)] (c_X4_at l L (up (up (up σ (k + 1) ((σ (k + 1)).set i ((h_w (A.getD i hd0)) + (h_w (A.getD j hd0))))) (k + 3) (((up σ (k + 1) ((σ (k + 1)).set i ((h_w (A.getD i hd0)) + (h_w (A.getD j hd0))))) (k + 3)).set i ((h_s (A.getD i hd0)) + (h_s (A.getD j hd0))))) (k + 5) (((up (up σ (k + 1) ((σ (k + 1)).set i ((h_w (A.getD i hd0)) + (h_w (A.getD j hd0))))) (k + 3) (((up σ (k + 1) ((σ (k + 1)).set i ((h_w (A.getD i hd0)) + (h_w (A.getD j hd0))))) (k + 3)).set i ((h_s (A.getD i hd0)) + (h_s (A.getD j hd0))))) (k + 5)).set i (if (h_l (A.getD j hd0)) < (h_l (A.getD i hd0)) then (h_l (A.getD j hd0)) else (h_l (A.getD i hd0))))) (kd1_7 hk) (by omega)) (kd1_7 hk) rfl (by decide) q_271 q_213 q_214 q_3 q_215 yd_X4_at rfl ⟨⟨rfl, rfl⟩, ⟨(Nat.le_of_ble_eq_true rfl), (Nat.le_of_ble_eq_true rfl)⟩, Nat.le_refl _, Nat.le_refl _⟩ rfl (Nat.le_of_ble_eq_true rfl) hl.1 dX1_unite_95 (fun H locs h => ?_)
  refine cv_i (show (((up (up (up σ (k + 1) ((σ (k + 1)).set i ((h_w (A.getD i hd0)) + (h_w (A.getD j hd0))))) (k + 3) (((up σ (k + 1) ((σ (k + 1)).set i ((h_w (A.getD i hd0)) + (h_w (A.getD j hd0))))) (k + 3)).set i ((h_s (A.getD i hd0)) + (h_s (A.getD j hd0))))) (k + 5) (((up (up σ (k + 1) ((σ (k + 1)).set i ((h_w (A.getD i hd0)) + (h_w (A.getD j hd0))))) (k + 3) (((up σ (k + 1) ((σ (k + 1)).set i ((h_w (A.getD i hd0)) + (h_w (A.getD j hd0))))) (k + 3)).set i ((h_s (A.getD i hd0)) + (h_s (A.getD j hd0))))) (k + 5)).set i (if (h_l (A.getD j hd0)) < (h_l (A.getD i hd0)) then (h_l (A.getD j hd0)) else (h_l (A.getD i hd0))))) (k + 7)).getD j 0 : Int32) = h_g (A.getD j hd0) from (by rw [up_n (by omega), up_n (by omega), up_n (by omega)]; exact hv.g _)) ?_
  refine va_mmax hx hb (S.2.2.1.trans hl.1.symm) S.2.2.2.1 (S.2.2.2.2 _ q_318) (S.2.2.2.2 _ q_32) (S.2.2.2.2 _ q_4) (S.2.2.2.2 _ q_33) (Nat.le_of_ble_eq_true rfl) (Nat.le_of_ble_eq_true rfl) (Nat.zero_le _) (Nat.zero_le _) dX1_unite_98 ?_
  refine q_V0 (ci := 4) S hI hK h [.int (nI i), .int (if (h_g (A.getD i hd0)) < (h_g (A.getD j hd0)) then (h_g (A.getD j hd0)) else (h_g (A.getD i hd0)))] (c_X4_put l L (up (up (up σ (k + 1) ((σ (k + 1)).set i ((h_w (A.getD i hd0)) + (h_w (A.getD j hd0))))) (k + 3) (((up σ (k + 1) ((σ (k + 1)).set i ((h_w (A.getD i hd0)) + (h_w (A.getD j hd0))))) (k + 3)).set i ((h_s (A.getD i hd0)) + (h_s (A.getD j hd0))))) (k + 5) (((up (up σ (k + 1) ((σ (k + 1)).set i ((h_w (A.getD i hd0)) + (h_w (A.getD j hd0))))) (k + 3) (((up σ (k + 1) ((σ (k + 1)).set i ((h_w (A.getD i hd0)) + (h_w (A.getD j hd0))))) (k + 3)).set i ((h_s (A.getD i hd0)) + (h_s (A.getD j hd0))))) (k + 5)).set i (if (h_l (A.getD j hd0)) < (h_l (A.getD i hd0)) then (h_l (A.getD j hd0)) else (h_l (A.getD i hd0))))) (kd1_7 hk) (by omega) (if (h_g (A.getD i hd0)) < (h_g (A.getD j hd0)) then (h_g (A.getD j hd0)) else (h_g (A.getD i hd0)))) (kd1_7 hk) rfl (by decide) q_313 q_314 q_315 q_3 q_316 yd_X4_put rfl ⟨⟨rfl, rfl⟩, ⟨(Nat.le_of_ble_eq_true rfl), (Nat.le_of_ble_eq_true rfl)⟩, Nat.le_refl _, Nat.le_refl _⟩ rfl (Nat.le_of_ble_eq_true rfl) hl.1 dX1_unite_101 (fun H locs h => ?_)
  exact e_v S hK h hr hlk dX1_unite_104 (fin_p hp rfl (hset_of ⟨by rw [up_n (by omega), up_n (by omega), up_n (by omega)]; rw [up_s, e1, List.map_set]; rfl, by rw [up_n (by omega), up_n (by omega)]; rw [up_s, up_n (by omega), e3, List.map_set]; rfl, by rw [up_n (by omega)]; rw [up_s, up_n (by omega), up_n (by omega), e5, List.map_set]; rfl, by rw [up_s, up_n (by omega), up_n (by omega), up_n (by omega), e7, List.map_set]; rfl⟩ (fun j h1 h3 h5 h7 => by simp [up, h1, h3, h5, h7])))

abbrev rX1_shortenTo : Room := { frames := 1, cells := 0, slots := 0, locals := 21 }
theorem yd_X1_shortenTo : ydV yX1_shortenTo RX1 1 := ⟨rfl, by decide +kernel, by decide +kernel, by decide +kernel⟩
set_option maxHeartbeats 4000000 in
set_option maxRecDepth 100000 in
theorem c_X1_shortenTo (l : Launch) (L : Lay) (σ : St) {k : Nat} {A : List Hp} (hk : kd k = 1) (hv : HV σ k A) {n : Nat} (hn : n < 2 ^ 31) : Mf l L yX1_shortenTo (Cond.code yX1_shortenTo cX1_shortenTo 2 none :: qA) rX1_shortenTo [.ref (ad L k), .int (nI n)] σ none (hset σ k (A.take n)) := by
  refine Mf.ofW (by decide) (Nat.le_of_ble_eq_true rfl) ?_
  intro p e s m args below meth c ls post hp hI S hr hlk hK h hl
  have hx := S.1
  have hb := S.2.1
  have hok := h.ok
  have hl : lv_has ls 2 [(0, .ref (ad L k)), (1, .int (nI n))] := hl
  obtain ⟨e1, e3, e5, e7⟩ := id hv
  refine lv_aload_n hx hb dX1_shortenTo_0 rfl (lv_at hl 0 rfl) ?_
  refine g_weights S hK h hk q_56 dX1_shortenTo_1 ?_
  refine lv_iload_n hx hb dX1_shortenTo_4 rfl (lv_at hl 1 rfl) ?_
  refine q_V0 (ci := 4) S hI hK h [.int (nI n)] (c_X4_shortenTo l L σ (kd1_1 hk) (by omega)) (kd1_1 hk) rfl (by decide) q_323 q_324 q_325 q_3 q_326 yd_X4_shortenTo rfl ⟨⟨rfl, rfl⟩, ⟨(Nat.le_of_ble_eq_true rfl), (Nat.le_of_ble_eq_true rfl)⟩, Nat.le_refl _, Nat.le_refl _⟩ rfl (Nat.le_of_ble_eq_true rfl) hl.1 dX1_shortenTo_5 (fun H locs h => ?_)
  refine lv_aload_n hx hb dX1_shortenTo_8 rfl (lv_at hl 0 rfl) ?_
  refine g_sums S hK h hk q_59 dX1_shortenTo_9 ?_
  refine lv_iload_n hx hb dX1_shortenTo_12 rfl (lv_at hl 1 rfl) ?_
  refine q_V0 (ci := 4) S hI hK h [.int (nI n)] (c_X4_shortenTo l L (up σ (k + 1) ((σ (k + 1)).take n)) (kd1_3 hk) (by omega)) (kd1_3 hk) rfl (by decide) q_323 q_324 q_325 q_3 q_326 yd_X4_shortenTo rfl ⟨⟨rfl, rfl⟩, ⟨(Nat.le_of_ble_eq_true rfl), (Nat.le_of_ble_eq_true rfl)⟩, Nat.le_refl _, Nat.le_refl _⟩ rfl (Nat.le_of_ble_eq_true rfl) hl.1 dX1_shortenTo_13 (fun H locs h => ?_)
  refine lv_aload_n hx hb dX1_shortenTo_16 rfl (lv_at hl 0 rfl) ?_
  refine g_leasts S hK h hk q_62 dX1_shortenTo_17 ?_
  refine lv_iload_n hx hb dX1_shortenTo_20 rfl (lv_at hl 1 rfl) ?_
  refine q_V0 (ci := 4) S hI hK h [.int (nI n)] (c_X4_shortenTo l L (up (up σ (k + 1) ((σ (k + 1)).take n)) (k + 3) (((up σ (k + 1) ((σ (k + 1)).take n)) (k + 3)).take n)) (kd1_5 hk) (by omega)) (kd1_5 hk) rfl (by decide) q_323 q_324 q_325 q_3 q_326 yd_X4_shortenTo rfl ⟨⟨rfl, rfl⟩, ⟨(Nat.le_of_ble_eq_true rfl), (Nat.le_of_ble_eq_true rfl)⟩, Nat.le_refl _, Nat.le_refl _⟩ rfl (Nat.le_of_ble_eq_true rfl) hl.1 dX1_shortenTo_21 (fun H locs h => ?_)
  refine lv_aload_n hx hb dX1_shortenTo_24 rfl (lv_at hl 0 rfl) ?_
  refine g_greatests S hK h hk q_65 dX1_shortenTo_25 ?_
  refine lv_iload_n hx hb dX1_shortenTo_28 rfl (lv_at hl 1 rfl) ?_
  refine q_V0 (ci := 4) S hI hK h [.int (nI n)] (c_X4_shortenTo l L (up (up (up σ (k + 1) ((σ (k + 1)).take n)) (k + 3) (((up σ (k + 1) ((σ (k + 1)).take n)) (k + 3)).take n)) (k + 5) (((up (up σ (k + 1) ((σ (k + 1)).take n)) (k + 3) (((up σ (k + 1) ((σ (k + 1)).take n)) (k + 3)).take n)) (k + 5)).take n)) (kd1_7 hk) (by omega)) (kd1_7 hk) rfl (by decide) q_323 q_324 q_325 q_3 q_326 yd_X4_shortenTo rfl ⟨⟨rfl, rfl⟩, ⟨(Nat.le_of_ble_eq_true rfl), (Nat.le_of_ble_eq_true rfl)⟩, Nat.le_refl _, Nat.le_refl _⟩ rfl (Nat.le_of_ble_eq_true rfl) hl.1 dX1_shortenTo_29 (fun H locs h => ?_)
  exact e_v S hK h hr hlk dX1_shortenTo_32 (fin_p hp rfl (hset_of ⟨by rw [up_n (by omega), up_n (by omega), up_n (by omega)]; rw [up_s, e1, List.map_take], by rw [up_n (by omega), up_n (by omega)]; rw [up_s, up_n (by omega), e3, List.map_take], by rw [up_n (by omega)]; rw [up_s, up_n (by omega), up_n (by omega), e5, List.map_take], by rw [up_s, up_n (by omega), up_n (by omega), up_n (by omega), e7, List.map_take]⟩ (fun j h1 h3 h5 h7 => by simp [up, h1, h3, h5, h7])))

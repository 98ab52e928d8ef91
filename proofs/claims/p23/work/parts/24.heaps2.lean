abbrev rX1_order : Room := { frames := 2, cells := 0, slots := 0, locals := 47 }
theorem yd_X1_order : ydV yX1_order RX1 0 := ⟨rfl, by decide +kernel, by decide +kernel, by decide +kernel⟩
set_option maxHeartbeats 4000000 in
set_option maxRecDepth 100000 in
theorem c_X1_order (l : Launch) (L : Lay) (σ : St) {k : Nat} {A : List Hp} (hk : kd k = 1) (hv : HV σ k A) : Mf l L yX1_order (Cond.code yX1_order cX1_order 3 none :: qA) rX1_order [.ref (ad L k)] σ none (hset σ k (order A)) := by
  refine Mf.ofW (by decide) (Nat.le_of_ble_eq_true rfl) ?_
  intro p e s m args below meth c ls post hp hI S hr hlk hK h hl
  have hx := S.1
  have hb := S.2.1
  have hok := h.ok
  have hl : lv_has ls 3 [(0, .ref (ad L k))] := hl
  have hA := hv.le hok hk
  refine lv_iconst (v := (nI 1)) hx hb dX1_order_0 (by decide) ?_
  refine lv_istore_n (lv' := [(1, .int (nI 1)), (0, .ref (ad L k))]) hx hb dX1_order_1 rfl hl (by decide) rfl (fun ls hl => ?_)
  have LP_2 : ∀ (n_2 : Nat) (i : Nat) (σ1 : St), (i + 1 ≤ A.length ∨ i = 0) → (σ1 = hset σ k (oSort A i)) → A.length - i < n_2 → ∀ (H : Heap) (locs : List Loc) (ls : Array Slot), Hd L s.heap H σ1 locs → lv_has ls 3 [(1, .int (nI (i + 1))), (0, .ref (ad L k))] → W p l e rX1_order s m args below meth c H locs 0 0 (MQ below (Qg post (bs L) (Aw L)) args s 0 0 (Aw L)) (F0 m 2 ls []) := by
    intro n_2
    induction n_2 with
    | zero => intro i σ1; intros; omega
    | succ n_2 ih_2 =>
      intro i σ1 hi hσ hm_2 H locs ls h hl
      have hok := h.ok
      have hv1 : HV σ1 k (oSort A i) := by rw [hσ]; exact HV.hset
      have hA1 : (oSort A i).length = A.length := oSort_len i
      refine lv_iload_n hx hb dX1_order_2 rfl (lv_at hl 0 rfl) ?_
      refine lv_aload_n hx hb dX1_order_3 rfl (lv_at hl 1 rfl) ?_
      refine q_V1 (ci := 1) S hI hK h [] (c_X1_size l L σ1 hk hv1) hk rfl (by decide) q_285 q_286 q_287 q_6 q_288 yd_X1_size rfl ⟨⟨rfl, rfl⟩, ⟨(Nat.le_of_ble_eq_true rfl), (Nat.le_of_ble_eq_true rfl)⟩, Nat.le_refl _, Nat.le_refl _⟩ rfl (Nat.le_of_ble_eq_true rfl) hl.1 dX1_order_4 (fun H locs h => ?_)
      refine b_icmp_ge (tgt := 47) hx hb dX1_order_7 (by decide) (by omega) (by omega) (fun c_7 => ?_) (fun c_7 => ?_)
      · have e4 : i = A.length - 1 := by omega
        exact e_v S hK h hr hlk dX1_order_47 (fin_p hp rfl (by rw [hσ, e4]; rfl))
      · refine lv_iload_n hx hb dX1_order_10 rfl (lv_at hl 0 rfl) ?_
        refine lv_istore_n (lv' := [(2, .int (nI (i + 1))), (1, .int (nI (i + 1))), (0, .ref (ad L k))]) hx hb dX1_order_11 rfl hl (by decide) rfl (fun ls hl => ?_)
        have LP_12 : ∀ (n_12 : Nat) (j : Nat) (B : List Hp) (σ2 : St), (j ≤ i + 1) → (σ2 = hset σ k B) → (B.length = A.length) → (sift hd0 gtH j B = oSort A (i + 1)) → j < n_12 → ∀ (H : Heap) (locs : List Loc) (ls : Array Slot), Hd L s.heap H σ2 locs → lv_has ls 3 [(2, .int (nI j)), (1, .int (nI (i + 1))), (0, .ref (ad L k))] → W p l e rX1_order s m args below meth c H locs 0 0 (MQ below (Qg post (bs L) (Aw L)) args s 0 0 (Aw L)) (F0 m 12 ls []) := by
          intro n_12
          induction n_12 with
          | zero => intro j B σ2; intros; omega
          | succ n_12 ih_12 =>
            intro j B σ2 hj hσ2 hB hs hm_12 H locs ls h hl
            have hok := h.ok
            have hv2 : HV σ2 k B := by rw [hσ2]; exact HV.hset
            refine lv_iload_n hx hb dX1_order_12 rfl (lv_at hl 0 rfl) ?_
            refine b_if_le (tgt := 41) hx hb dX1_order_13 (by decide) (by omega) (fun c_13 => ?_) (fun c_13 => ?_)
            · have hs9 : σ2 = hset σ k (oSort A (i + 1)) := by rw [← hs, c_13]; exact hσ2
              refine lv_iinc (v := (nI (i + 1 + 1))) (lv' := [(1, .int (nI (i + 1 + 1))), (2, .int (nI j)), (0, .ref (ad L k))]) hx hb dX1_order_41 hl (k := 1) rfl (iinc_1 _) (by decide) rfl (fun ls hl => ?_)
              refine lv_goto (tgt := 2) hx hb dX1_order_44 (by decide) ?_
              exact ih_2 (i + 1) σ2 (Or.inl (by omega)) hs9 (by omega) _ _ _ h (lv_sub hl [0, 2] rfl)
            · obtain ⟨j1, rfl⟩ : ∃ j1, j = j1 + 1 := ⟨j - 1, by omega⟩
              refine lv_aload_n hx hb dX1_order_16 rfl (lv_at hl 2 rfl) ?_
              refine lv_iload_n hx hb dX1_order_17 rfl (lv_at hl 0 rfl) ?_
              refine lv_iconst (v := (nI 1)) hx hb dX1_order_18 (by decide) ?_
              refine a_isub hx hb dX1_order_19 (by omega) ?_
              refine cv_i (show (nI ((j1 + 1) - 1) : Int32) = nI j1 from (by rw [Nat.add_sub_cancel])) ?_
              refine lv_iload_n hx hb dX1_order_20 rfl (lv_at hl 0 rfl) ?_
              refine q_V1 (ci := 1) S hI hK h [.int (nI j1), .int (nI (j1 + 1))] (c_X1_isMiddleAbove l L σ2 hk hv2 (by omega) (by omega)) hk rfl (by decide) q_289 q_291 qs_3 q_6 q_292 yd_X1_isMiddleAbove rfl ⟨⟨rfl, rfl⟩, ⟨(Nat.le_of_ble_eq_true rfl), (Nat.le_of_ble_eq_true rfl)⟩, Nat.le_refl _, Nat.le_refl _⟩ rfl (Nat.le_of_ble_eq_true rfl) hl.1 dX1_order_21 (fun H locs h => ?_)
              refine z_eq (tgt := 41) hx hb dX1_order_24 (by decide) (fun c_24 => ?_) (fun c_24 => ?_)
              · have hs9 : σ2 = hset σ k (oSort A (i + 1)) := by rw [← hs, sift, if_neg c_24]; exact hσ2
                refine lv_iinc (v := (nI (i + 1 + 1))) (lv' := [(1, .int (nI (i + 1 + 1))), (2, .int (nI (j1 + 1))), (0, .ref (ad L k))]) hx hb dX1_order_41 hl (k := 1) rfl (iinc_1 _) (by decide) rfl (fun ls hl => ?_)
                refine lv_goto (tgt := 2) hx hb dX1_order_44 (by decide) ?_
                exact ih_2 (i + 1) σ2 (Or.inl (by omega)) hs9 (by omega) _ _ _ h (lv_sub hl [0, 2] rfl)
              · refine lv_aload_n hx hb dX1_order_27 rfl (lv_at hl 2 rfl) ?_
                refine lv_iload_n hx hb dX1_order_28 rfl (lv_at hl 0 rfl) ?_
                refine lv_iconst (v := (nI 1)) hx hb dX1_order_29 (by decide) ?_
                refine a_isub hx hb dX1_order_30 (by omega) ?_
                refine cv_i (show (nI ((j1 + 1) - 1) : Int32) = nI j1 from (by rw [Nat.add_sub_cancel])) ?_
                refine lv_iload_n hx hb dX1_order_31 rfl (lv_at hl 0 rfl) ?_
                refine q_V0 (ci := 1) S hI hK h [.int (nI j1), .int (nI (j1 + 1))] (c_X1_exchange l L σ2 hk hv2 (by omega) (by omega)) hk rfl (by decide) q_293 q_295 qs_4 q_6 q_296 yd_X1_exchange rfl ⟨⟨rfl, rfl⟩, ⟨(Nat.le_of_ble_eq_true rfl), (Nat.le_of_ble_eq_true rfl)⟩, Nat.le_refl _, Nat.le_refl _⟩ rfl (Nat.le_of_ble_eq_true rfl) hl.1 dX1_order_32 (fun H locs h => ?_)
                refine lv_iinc (v := (nI j1)) (lv' := [(2, .int (nI j1)), (1, .int (nI (i + 1))), (0, .ref (ad L k))]) hx hb dX1_order_35 hl (k := 0) rfl (iinc_m1 _) (by decide) rfl (fun ls hl => ?_)
                refine lv_goto (tgt := 12) hx hb dX1_order_38 (by decide) ?_
                exact ih_12 j1 (swp hd0 B j1 (j1 + 1)) (hset σ2 k (swp hd0 B j1 (j1 + 1))) (by omega) (by rw [hσ2, hset_hset]) (by rw [swp_len]; exact hB) (by rw [← hs, sift, if_pos c_24]) (by omega) _ _ _ h (lv_sub hl [0, 1, 2] rfl)
        exact LP_12 _ (i + 1) (oSort A i) σ1 (by omega) hσ hA1 rfl (Nat.lt_succ_self _) _ _ _ h (lv_sub hl [0, 1, 2] rfl)
  exact LP_2 _ 0 σ (Or.inr rfl) (hset_id hv).symm (Nat.lt_succ_self _) _ _ _ h (lv_sub hl [0, 1] rfl)

abbrev rX1_isWithinPlace : Room := { frames := 0, cells := 0, slots := 0, locals := 0 }
theorem yd_X1_isWithinPlace : ydV yX1_isWithinPlace RX1 4 := ⟨rfl, by decide +kernel, by decide +kernel, by decide +kernel⟩
set_option maxHeartbeats 4000000 in
set_option maxRecDepth 100000 in
theorem c_X1_isWithinPlace (l : Launch) (L : Lay) (σ : St) (both ahead total f : Int32) : Mf l L yX1_isWithinPlace (Cond.code yX1_isWithinPlace cX1_isWithinPlace 4 (some FieldType.boolean) :: qA) rX1_isWithinPlace [.int both, .int ahead, .int total, .int f] σ (some (.int (if wiB both ahead total f = true then 1 else 0))) σ := by
  refine Mf.ofW (by decide) (Nat.le_of_ble_eq_true rfl) ?_
  intro p e s m args below meth c ls post hp hI S hr hlk hK h hl
  have hx := S.1
  have hb := S.2.1
  have hok := h.ok
  have hl : lv_has ls 4 [(0, .int both), (1, .int ahead), (2, .int total), (3, .int f)] := hl
  refine lv_iload_n hx hb dX1_isWithinPlace_0 rfl (lv_at hl 0 rfl) ?_
  refine lv_iload_n hx hb dX1_isWithinPlace_1 rfl (lv_at hl 2 rfl) ?_
  refine lv_imul hx hb dX1_isWithinPlace_2 ?_
  refine lv_iload_n hx hb dX1_isWithinPlace_3 rfl (lv_at hl 3 rfl) ?_
  refine lv_imul hx hb dX1_isWithinPlace_4 ?_
  refine lv_iconst (v := (nI 2)) hx hb dX1_isWithinPlace_5 (by decide) ?_
  refine lv_iload_n hx hb dX1_isWithinPlace_6 rfl (lv_at hl 1 rfl) ?_
  refine lv_imul hx hb dX1_isWithinPlace_7 ?_
  refine lv_iload_n hx hb dX1_isWithinPlace_8 rfl (lv_at hl 0 rfl) ?_
  refine lv_iadd hx hb dX1_isWithinPlace_9 ?_
  refine lv_iconst (v := (nI 2)) hx hb dX1_isWithinPlace_10 (by decide) ?_
  refine lv_iload_n hx hb dX1_isWithinPlace_11 rfl (lv_at hl 2 rfl) ?_
  refine lv_imul hx hb dX1_isWithinPlace_12 ?_
  refine lv_iconst (v := (nI 2)) hx hb dX1_isWithinPlace_13 (by decide) ?_
  refine lv_iload_n hx hb dX1_isWithinPlace_14 rfl (lv_at hl 1 rfl) ?_
  refine lv_imul hx hb dX1_isWithinPlace_15 ?_
  refine lv_isub hx hb dX1_isWithinPlace_16 ?_
  refine lv_iload_n hx hb dX1_isWithinPlace_17 rfl (lv_at hl 0 rfl) ?_
  refine lv_isub hx hb dX1_isWithinPlace_18 ?_
  refine lv_imul hx hb dX1_isWithinPlace_19 ?_
  refine lv_icmp_gt (tgt := 27) hx hb dX1_isWithinPlace_20 (by decide) (fun c_20 => ?_) (fun c_20 => ?_)
  · rw [if_neg (show ¬ wiB both ahead total f = true from fun q => Int32.not_le.mpr c_20 (of_decide_eq_true q))] at hp
    refine lv_iconst (v := (nI 0)) hx hb dX1_isWithinPlace_27 (by decide) ?_
    exact e_z S hK h hr hlk (Or.inl rfl) dX1_isWithinPlace_28 hp
  · rw [if_pos (show wiB both ahead total f = true from decide_eq_true (Int32.not_lt.mp c_20))] at hp
    refine lv_iconst (v := (nI 1)) hx hb dX1_isWithinPlace_23 (by decide) ?_
    refine lv_goto (tgt := 28) hx hb dX1_isWithinPlace_24 (by decide) ?_
    exact e_z S hK h hr hlk (Or.inr rfl) dX1_isWithinPlace_28 hp

abbrev rX1_putTogether : Room := { frames := 2, cells := 0, slots := 0, locals := 45 }
theorem yd_X1_putTogether : ydV yX1_putTogether RX1 1 := ⟨rfl, by decide +kernel, by decide +kernel, by decide +kernel⟩
set_option maxHeartbeats 4000000 in
set_option maxRecDepth 100000 in
theorem c_X1_putTogether (l : Launch) (L : Lay) (σ : St) {k : Nat} {A : List Hp} (hk : kd k = 1) (hv : HV σ k A) (f : Int32) : Mf l L yX1_putTogether (Cond.code yX1_putTogether cX1_putTogether 7 none :: qA) rX1_putTogether [.ref (ad L k), .int f] σ none (hset σ k (ptog f A)) := by
  refine Mf.ofW (by decide) (Nat.le_of_ble_eq_true rfl) ?_
  intro p e s m args below meth c ls post hp hI S hr hlk hK h hl
  have hx := S.1
  have hb := S.2.1
  have hok := h.ok
  have hl : lv_has ls 7 [(0, .ref (ad L k)), (1, .int f)] := hl
  have hA := hv.le hok hk
  refine lv_aload_n hx hb dX1_putTogether_0 rfl (lv_at hl 0 rfl) ?_
  refine g_weights S hK h hk q_56 dX1_putTogether_1 ?_
  refine q_V1 (ci := 4) S hI hK h [] (c_X4_total l L σ (kd1_1 hk)) (kd1_1 hk) rfl (by decide) q_305 q_209 q_210 q_3 q_211 yd_X4_total rfl ⟨⟨rfl, rfl⟩, ⟨(Nat.le_of_ble_eq_true rfl), (Nat.le_of_ble_eq_true rfl)⟩, Nat.le_refl _, Nat.le_refl _⟩ rfl (Nat.le_of_ble_eq_true rfl) hl.1 dX1_putTogether_4 (fun H locs h => ?_)
  refine cv_i (show (isum (σ (k + 1)) (σ (k + 1)).length : Int32) = wTot A from hv.tot) ?_
  refine lv_istore_n (lv' := [(2, .int (wTot A)), (0, .ref (ad L k)), (1, .int f)]) hx hb dX1_putTogether_7 rfl hl (by decide) rfl (fun ls hl => ?_)
  refine lv_iconst (v := (nI 0)) hx hb dX1_putTogether_8 (by decide) ?_
  refine lv_istore_n (lv' := [(3, .int (nI 0)), (2, .int (wTot A)), (0, .ref (ad L k)), (1, .int f)]) hx hb dX1_putTogether_9 rfl hl (by decide) rfl (fun ls hl => ?_)
  refine lv_iconst (v := (nI 0)) hx hb dX1_putTogether_10 (by decide) ?_
  refine lv_istore (lv' := [(4, .int (nI 0)), (3, .int (nI 0)), (2, .int (wTot A)), (0, .ref (ad L k)), (1, .int f)]) hx hb dX1_putTogether_11 hl (by decide) rfl (fun ls hl => ?_)
  refine lv_iconst (v := (nI 1)) hx hb dX1_putTogether_13 (by decide) ?_
  refine lv_istore (lv' := [(5, .int (nI 1)), (4, .int (nI 0)), (3, .int (nI 0)), (2, .int (wTot A)), (0, .ref (ad L k)), (1, .int f)]) hx hb dX1_putTogether_14 hl (by decide) rfl (fun ls hl => ?_)
  have LP_16 : ∀ (n_16 : Nat) (i : Nat) (o : Nat) (a : Int32) (B : List Hp) (σ1 : St), (i + 1 ≤ A.length ∨ i = 0) → (o ≤ i) → (B.length = A.length) → (σ1 = hset σ k B) → (A.length = 0 ∨ ptog f A = B.take o ++ mg f (wTot A) a (B.getD o hd0) (B.drop (i + 1))) → A.length - i < n_16 → ∀ (H : Heap) (locs : List Loc) (ls : Array Slot), Hd L s.heap H σ1 locs → lv_has ls 7 [(5, .int (nI (i + 1))), (4, .int (nI o)), (3, .int a), (2, .int (wTot A)), (1, .int f), (0, .ref (ad L k))] → W p l e rX1_putTogether s m args below meth c H locs 0 0 (MQ below (Qg post (bs L) (Aw L)) args s 0 0 (Aw L)) (F0 m 16 ls []) := by
    intro n_16
    induction n_16 with
    | zero => intro i o a B σ1; intros; omega
    | succ n_16 ih_16 =>
      intro i o a B σ1 hi ho hB hσ hrr hm_16 H locs ls h hl
      have hok := h.ok
      have hv1 : HV σ1 k B := by rw [hσ]; exact HV.hset
      refine lv_iload hx hb dX1_putTogether_16 (lv_at hl 0 rfl) ?_
      refine lv_aload_n hx hb dX1_putTogether_18 rfl (lv_at hl 5 rfl) ?_
      refine q_V1 (ci := 1) S hI hK h [] (c_X1_size l L σ1 hk hv1) hk rfl (by decide) q_285 q_286 q_287 q_6 q_288 yd_X1_size rfl ⟨⟨rfl, rfl⟩, ⟨(Nat.le_of_ble_eq_true rfl), (Nat.le_of_ble_eq_true rfl)⟩, Nat.le_refl _, Nat.le_refl _⟩ rfl (Nat.le_of_ble_eq_true rfl) hl.1 dX1_putTogether_19 (fun H locs h => ?_)
      refine cv_i (show (nI B.length : Int32) = nI A.length from (by rw [hB])) ?_
      refine b_icmp_ge (tgt := 97) hx hb dX1_putTogether_22 (by decide) (by omega) (by omega) (fun c_22 => ?_) (fun c_22 => ?_)
      · refine lv_aload_n hx hb dX1_putTogether_97 rfl (lv_at hl 5 rfl) ?_
        refine lv_iload hx hb dX1_putTogether_98 (lv_at hl 1 rfl) ?_
        refine lv_iconst (v := (nI 1)) hx hb dX1_putTogether_100 (by decide) ?_
        refine a_iadd hx hb dX1_putTogether_101 ?_
        refine q_V0 (ci := 1) S hI hK h [.int (nI (o + 1))] (c_X1_shortenTo l L σ1 hk hv1 (by omega)) hk rfl (by decide) q_319 q_321 qs_7 q_6 q_322 yd_X1_shortenTo rfl ⟨⟨rfl, rfl⟩, ⟨(Nat.le_of_ble_eq_true rfl), (Nat.le_of_ble_eq_true rfl)⟩, Nat.le_refl _, Nat.le_refl _⟩ rfl (Nat.le_of_ble_eq_true rfl) hl.1 dX1_putTogether_102 (fun H locs h => ?_)
        exact e_v S hK h hr hlk dX1_putTogether_105 (fin_p hp rfl (by rw [hσ, hset_hset]; congr 1; exact (mg_fin ho hB hi c_22 hrr).symm))
      · have hr1 := hrr.resolve_left (by omega)
        refine lv_aload_n hx hb dX1_putTogether_25 rfl (lv_at hl 5 rfl) ?_
        refine g_weights S hK h hk q_56 dX1_putTogether_26 ?_
        refine lv_iload hx hb dX1_putTogether_29 (lv_at hl 1 rfl) ?_
        refine q_V1 (ci := 4) S hI hK h [.int (nI o)] (c_X4_at l L σ1 (kd1_1 hk) (by omega)) (kd1_1 hk) rfl (by decide) q_271 q_213 q_214 q_3 q_215 yd_X4_at rfl ⟨⟨rfl, rfl⟩, ⟨(Nat.le_of_ble_eq_true rfl), (Nat.le_of_ble_eq_true rfl)⟩, Nat.le_refl _, Nat.le_refl _⟩ rfl (Nat.le_of_ble_eq_true rfl) hl.1 dX1_putTogether_31 (fun H locs h => ?_)
        refine cv_i (show ((σ1 (k + 1)).getD o 0 : Int32) = h_w (B.getD o hd0) from (hv1.w _)) ?_
        refine lv_aload_n hx hb dX1_putTogether_34 rfl (lv_at hl 5 rfl) ?_
        refine g_weights S hK h hk q_56 dX1_putTogether_35 ?_
        refine lv_iload hx hb dX1_putTogether_38 (lv_at hl 0 rfl) ?_
        refine q_V1 (ci := 4) S hI hK h [.int (nI (i + 1))] (c_X4_at l L σ1 (kd1_1 hk) (by omega)) (kd1_1 hk) rfl (by decide) q_271 q_213 q_214 q_3 q_215 yd_X4_at rfl ⟨⟨rfl, rfl⟩, ⟨(Nat.le_of_ble_eq_true rfl), (Nat.le_of_ble_eq_true rfl)⟩, Nat.le_refl _, Nat.le_refl _⟩ rfl (Nat.le_of_ble_eq_true rfl) hl.1 dX1_putTogether_40 (fun H locs h => ?_)
        refine cv_i (show ((σ1 (k + 1)).getD (i + 1) 0 : Int32) = h_w (B.getD (i + 1) hd0) from (hv1.w _)) ?_
        refine lv_iadd hx hb dX1_putTogether_43 ?_
        refine lv_istore (lv' := [(6, .int ((h_w (B.getD o hd0)) + (h_w (B.getD (i + 1) hd0)))), (5, .int (nI (i + 1))), (4, .int (nI o)), (3, .int a), (2, .int (wTot A)), (1, .int f), (0, .ref (ad L k))]) hx hb dX1_putTogether_44 hl (by decide) rfl (fun ls hl => ?_)
        refine lv_iload hx hb dX1_putTogether_46 (lv_at hl 0 rfl) ?_
        refine lv_iload_n hx hb dX1_putTogether_48 rfl (lv_at hl 3 rfl) ?_
        refine lv_iload_n hx hb dX1_putTogether_49 rfl (lv_at hl 4 rfl) ?_
        refine lv_iload_n hx hb dX1_putTogether_50 rfl (lv_at hl 5 rfl) ?_
        refine q_S1 S hI hK h [.int ((h_w (B.getD o hd0)) + (h_w (B.getD (i + 1) hd0))), .int a, .int (wTot A), .int f] (c_X1_isWithinPlace l L σ1 ((h_w (B.getD o hd0)) + (h_w (B.getD (i + 1) hd0))) a (wTot A) f) q_306 q_307 q_6 q_308 yd_X1_isWithinPlace rfl ⟨⟨rfl, rfl⟩, ⟨(Nat.le_of_ble_eq_true rfl), (Nat.le_of_ble_eq_true rfl)⟩, Nat.le_refl _, Nat.le_refl _⟩ rfl (Nat.le_of_ble_eq_true rfl) hl.1 dX1_putTogether_51 (fun H locs h => ?_)
        refine z_eq (tgt := 68) hx hb dX1_putTogether_54 (by decide) (fun c_54 => ?_) (fun c_54 => ?_)
        · refine lv_iload_n hx hb dX1_putTogether_68 rfl (lv_at hl 3 rfl) ?_
          refine lv_aload_n hx hb dX1_putTogether_69 rfl (lv_at hl 6 rfl) ?_
          refine g_weights S hK h hk q_56 dX1_putTogether_70 ?_
          refine lv_iload hx hb dX1_putTogether_73 (lv_at hl 2 rfl) ?_
          refine q_V1 (ci := 4) S hI hK h [.int (nI o)] (c_X4_at l L σ1 (kd1_1 hk) (by omega)) (kd1_1 hk) rfl (by decide) q_271 q_213 q_214 q_3 q_215 yd_X4_at rfl ⟨⟨rfl, rfl⟩, ⟨(Nat.le_of_ble_eq_true rfl), (Nat.le_of_ble_eq_true rfl)⟩, Nat.le_refl _, Nat.le_refl _⟩ rfl (Nat.le_of_ble_eq_true rfl) hl.1 dX1_putTogether_75 (fun H locs h => ?_)
          refine cv_i (show ((σ1 (k + 1)).getD o 0 : Int32) = h_w (B.getD o hd0) from (hv1.w _)) ?_
          refine lv_iadd hx hb dX1_putTogether_78 ?_
          refine lv_istore_n (lv' := [(3, .int (a + (h_w (B.getD o hd0)))), (6, .int ((h_w (B.getD o hd0)) + (h_w (B.getD (i + 1) hd0)))), (5, .int (nI (i + 1))), (4, .int (nI o)), (2, .int (wTot A)), (1, .int f), (0, .ref (ad L k))]) hx hb dX1_putTogether_79 rfl hl (by decide) rfl (fun ls hl => ?_)
          refine lv_iinc (v := (nI (o + 1))) (lv' := [(4, .int (nI (o + 1))), (3, .int (a + (h_w (B.getD o hd0)))), (6, .int ((h_w (B.getD o hd0)) + (h_w (B.getD (i + 1) hd0)))), (5, .int (nI (i + 1))), (2, .int (wTot A)), (1, .int f), (0, .ref (ad L k))]) hx hb dX1_putTogether_80 hl (k := 3) rfl (iinc_1 _) (by decide) rfl (fun ls hl => ?_)
          refine lv_aload_n hx hb dX1_putTogether_83 rfl (lv_at hl 6 rfl) ?_
          refine lv_iload hx hb dX1_putTogether_84 (lv_at hl 0 rfl) ?_
          refine lv_iload hx hb dX1_putTogether_86 (lv_at hl 3 rfl) ?_
          refine q_V0 (ci := 1) S hI hK h [.int (nI (o + 1)), .int (nI (i + 1))] (c_X1_exchange l L σ1 hk hv1 (by omega) (by omega)) hk rfl (by decide) q_293 q_295 qs_4 q_6 q_296 yd_X1_exchange rfl ⟨⟨rfl, rfl⟩, ⟨(Nat.le_of_ble_eq_true rfl), (Nat.le_of_ble_eq_true rfl)⟩, Nat.le_refl _, Nat.le_refl _⟩ rfl (Nat.le_of_ble_eq_true rfl) hl.1 dX1_putTogether_88 (fun H locs h => ?_)
          refine lv_iinc (v := (nI (i + 1 + 1))) (lv' := [(5, .int (nI (i + 1 + 1))), (4, .int (nI (o + 1))), (3, .int (a + (h_w (B.getD o hd0)))), (6, .int ((h_w (B.getD o hd0)) + (h_w (B.getD (i + 1) hd0)))), (2, .int (wTot A)), (1, .int f), (0, .ref (ad L k))]) hx hb dX1_putTogether_91 hl (k := 3) rfl (iinc_1 _) (by decide) rfl (fun ls hl => ?_)
          refine lv_goto (tgt := 16) hx hb dX1_putTogether_94 (by decide) ?_
          exact ih_16 (i + 1) (o + 1) (a + h_w (B.getD o hd0)) (swp hd0 B (o + 1) (i + 1)) _ (Or.inl (by omega)) (by omega) (by rw [swp_len]; exact hB) (by rw [hσ, hset_hset]) (Or.inr (hr1.trans (mg_next ho (by omega) c_54))) (by omega) _ _ _ h (lv_sub hl [0, 1, 2, 4, 5, 6] rfl)
        · refine lv_aload_n hx hb dX1_putTogether_57 rfl (lv_at hl 6 rfl) ?_
          refine lv_iload hx hb dX1_putTogether_58 (lv_at hl 2 rfl) ?_
          refine lv_iload hx hb dX1_putTogether_60 (lv_at hl 1 rfl) ?_
          refine q_V0 (ci := 1) S hI hK h [.int (nI o), .int (nI (i + 1))] (c_X1_unite l L σ1 hk hv1 (by omega) (by omega)) hk rfl (by decide) q_309 q_311 qs_6 q_6 q_312 yd_X1_unite rfl ⟨⟨rfl, rfl⟩, ⟨(Nat.le_of_ble_eq_true rfl), (Nat.le_of_ble_eq_true rfl)⟩, Nat.le_refl _, Nat.le_refl _⟩ rfl (Nat.le_of_ble_eq_true rfl) hl.1 dX1_putTogether_62 (fun H locs h => ?_)
          refine lv_goto (tgt := 91) hx hb dX1_putTogether_65 (by decide) ?_
          refine lv_iinc (v := (nI (i + 1 + 1))) (lv' := [(5, .int (nI (i + 1 + 1))), (6, .int ((h_w (B.getD o hd0)) + (h_w (B.getD (i + 1) hd0)))), (4, .int (nI o)), (3, .int a), (2, .int (wTot A)), (1, .int f), (0, .ref (ad L k))]) hx hb dX1_putTogether_91 hl (k := 1) rfl (iinc_1 _) (by decide) rfl (fun ls hl => ?_)
          refine lv_goto (tgt := 16) hx hb dX1_putTogether_94 (by decide) ?_
          exact ih_16 (i + 1) o a (B.set o (unI (B.getD o hd0) (B.getD (i + 1) hd0))) _ (Or.inl (by omega)) (by omega) (by rw [List.length_set]; exact hB) (by rw [hσ, hset_hset]) (Or.inr (hr1.trans (mg_unite ho (by omega) c_54))) (by omega) _ _ _ h (lv_sub hl [0, 2, 3, 4, 5, 6] rfl)
  exact LP_16 _ 0 0 (nI 0) A σ (Or.inr rfl) (by omega) rfl (hset_id hv).symm (by rcases Nat.eq_zero_or_pos A.length with q | q; exact Or.inl q; exact Or.inr (mg_start (by omega))) (Nat.lt_succ_self _) _ _ _ h (lv_sub hl [0, 1, 2, 3, 5, 4] rfl)

abbrev rX1_packBy : Room := { frames := 3, cells := 0, slots := 0, locals := 71 }
theorem yd_X1_packBy : ydV yX1_packBy RX1 1 := ⟨rfl, by decide +kernel, by decide +kernel, by decide +kernel⟩
set_option maxHeartbeats 4000000 in
set_option maxRecDepth 100000 in
theorem c_X1_packBy (l : Launch) (L : Lay) (σ : St) {k : Nat} {A : List Hp} (hk : kd k = 1) (hv : HV σ k A) (f : Int32) : Mf l L yX1_packBy (Cond.code yX1_packBy cX1_packBy 2 none :: qA) rX1_packBy [.ref (ad L k), .int f] σ none (hset σ k (packL f A)) := by
  refine Mf.ofW (by decide) (Nat.le_of_ble_eq_true rfl) ?_
  intro p e s m args below meth c ls post hp hI S hr hlk hK h hl
  have hx := S.1
  have hb := S.2.1
  have hok := h.ok
  have hl : lv_has ls 2 [(0, .ref (ad L k)), (1, .int f)] := hl
  refine lv_aload_n hx hb dX1_packBy_0 rfl (lv_at hl 0 rfl) ?_
  refine q_V0 (ci := 1) S hI hK h [] (c_X1_order l L σ hk hv) hk rfl (by decide) q_281 q_283 qs_2 q_6 q_284 yd_X1_order rfl ⟨⟨rfl, rfl⟩, ⟨(Nat.le_of_ble_eq_true rfl), (Nat.le_of_ble_eq_true rfl)⟩, Nat.le_refl _, Nat.le_refl _⟩ rfl (Nat.le_of_ble_eq_true rfl) hl.1 dX1_packBy_1 (fun H locs h => ?_)
  refine lv_aload_n hx hb dX1_packBy_4 rfl (lv_at hl 0 rfl) ?_
  refine lv_iload_n hx hb dX1_packBy_5 rfl (lv_at hl 1 rfl) ?_
  refine q_V0 (ci := 1) S hI hK h [.int f] (c_X1_putTogether l L (hset σ k (order A)) hk HV.hset  f) hk rfl (by decide) q_301 q_303 qs_5 q_6 q_304 yd_X1_putTogether rfl ⟨⟨rfl, rfl⟩, ⟨(Nat.le_of_ble_eq_true rfl), (Nat.le_of_ble_eq_true rfl)⟩, Nat.le_refl _, Nat.le_refl _⟩ rfl (Nat.le_of_ble_eq_true rfl) hl.1 dX1_packBy_6 (fun H locs h => ?_)
  exact e_v S hK h hr hlk dX1_packBy_9 (fin_p hp rfl hset_hset)

abbrev rX1_widthAt : Room := { frames := 2, cells := 0, slots := 0, locals := 40 }
theorem yd_X1_widthAt : ydV yX1_widthAt RX1 1 := ⟨rfl, by decide +kernel, by decide +kernel, by decide +kernel⟩
set_option maxHeartbeats 4000000 in
set_option maxRecDepth 100000 in
theorem c_X1_widthAt (l : Launch) (L : Lay) (σ : St) {k : Nat} {A : List Hp} (hk : kd k = 1) (hv : HV σ k A) (x : Int32) : Mf l L yX1_widthAt (Cond.code yX1_widthAt cX1_widthAt 4 (some FieldType.int) :: qA) rX1_widthAt [.ref (ad L k), .int x] σ (some (.int (wAt x (nI 0) A))) σ := by
  refine Mf.ofW (by decide) (Nat.le_of_ble_eq_true rfl) ?_
  intro p e s m args below meth c ls post hp hI S hr hlk hK h hl
  have hx := S.1
  have hb := S.2.1
  have hok := h.ok
  have hl : lv_has ls 4 [(0, .ref (ad L k)), (1, .int x)] := hl
  have hA := hv.le hok hk
  refine lv_iconst (v := (nI 0)) hx hb dX1_widthAt_0 (by decide) ?_
  refine lv_istore_n (lv' := [(2, .int (nI 0)), (0, .ref (ad L k)), (1, .int x)]) hx hb dX1_widthAt_1 rfl hl (by decide) rfl (fun ls hl => ?_)
  refine lv_iconst (v := (nI 0)) hx hb dX1_widthAt_2 (by decide) ?_
  refine lv_istore_n (lv' := [(3, .int (nI 0)), (2, .int (nI 0)), (0, .ref (ad L k)), (1, .int x)]) hx hb dX1_widthAt_3 rfl hl (by decide) rfl (fun ls hl => ?_)
  have LP_4 : ∀ (n_4 : Nat) (i : Nat) (acc : Int32), (i ≤ A.length) → (wAt x (nI 0) A = wAt x acc (A.drop i)) → A.length - i < n_4 → ∀ (H : Heap) (locs : List Loc) (ls : Array Slot), Hd L s.heap H σ locs → lv_has ls 4 [(3, .int (nI i)), (2, .int acc), (0, .ref (ad L k)), (1, .int x)] → W p l e rX1_widthAt s m args below meth c H locs 0 0 (MQ below (Qg post (bs L) (Aw L)) args s 0 0 (Aw L)) (F0 m 4 ls []) := by
    intro n_4
    induction n_4 with
    | zero => intro i acc; intros; omega
    | succ n_4 ih_4 =>
      intro i acc hi ha hm_4 H locs ls h hl
      have hok := h.ok
      refine lv_iload_n hx hb dX1_widthAt_4 rfl (lv_at hl 0 rfl) ?_
      refine lv_aload_n hx hb dX1_widthAt_5 rfl (lv_at hl 2 rfl) ?_
      refine q_V1 (ci := 1) S hI hK h [] (c_X1_size l L σ hk hv) hk rfl (by decide) q_285 q_286 q_287 q_6 q_288 yd_X1_size rfl ⟨⟨rfl, rfl⟩, ⟨(Nat.le_of_ble_eq_true rfl), (Nat.le_of_ble_eq_true rfl)⟩, Nat.le_refl _, Nat.le_refl _⟩ rfl (Nat.le_of_ble_eq_true rfl) hl.1 dX1_widthAt_6 (fun H locs h => ?_)
      refine b_icmp_ge (tgt := 52) hx hb dX1_widthAt_9 (by decide) (by omega) (by omega) (fun c_9 => ?_) (fun c_9 => ?_)
      · have e4 : A.drop i = [] := List.drop_of_length_le (by omega)
        refine lv_iconst (v := (nI 0)) hx hb dX1_widthAt_52 (by decide) ?_
        exact e_i S hK h hr hlk dX1_widthAt_53 (fin_p hp (by rw [ha, e4]; rfl) rfl)
      · have ed := drop_getD (d := hd0) c_9
        refine lv_iload_n hx hb dX1_widthAt_12 rfl (lv_at hl 1 rfl) ?_
        refine lv_aload_n hx hb dX1_widthAt_13 rfl (lv_at hl 2 rfl) ?_
        refine g_weights S hK h hk q_56 dX1_widthAt_14 ?_
        refine lv_iload_n hx hb dX1_widthAt_17 rfl (lv_at hl 0 rfl) ?_
        refine q_V1 (ci := 4) S hI hK h [.int (nI i)] (c_X4_at l L σ (kd1_1 hk) (by omega)) (kd1_1 hk) rfl (by decide) q_271 q_213 q_214 q_3 q_215 yd_X4_at rfl ⟨⟨rfl, rfl⟩, ⟨(Nat.le_of_ble_eq_true rfl), (Nat.le_of_ble_eq_true rfl)⟩, Nat.le_refl _, Nat.le_refl _⟩ rfl (Nat.le_of_ble_eq_true rfl) hl.1 dX1_widthAt_18 (fun H locs h => ?_)
        refine cv_i (show ((σ (k + 1)).getD i 0 : Int32) = h_w (A.getD i hd0) from (hv.w _)) ?_
        refine lv_iadd hx hb dX1_widthAt_21 ?_
        refine lv_istore_n (lv' := [(2, .int (acc + (h_w (A.getD i hd0)))), (3, .int (nI i)), (0, .ref (ad L k)), (1, .int x)]) hx hb dX1_widthAt_22 rfl hl (by decide) rfl (fun ls hl => ?_)
        refine lv_iload_n hx hb dX1_widthAt_23 rfl (lv_at hl 0 rfl) ?_
        refine lv_iload_n hx hb dX1_widthAt_24 rfl (lv_at hl 3 rfl) ?_
        refine lv_icmp_le (tgt := 46) hx hb dX1_widthAt_25 (by decide) (fun c_25 => ?_) (fun c_25 => ?_)
        · refine lv_iinc (v := (nI (i + 1))) (lv' := [(3, .int (nI (i + 1))), (2, .int (acc + (h_w (A.getD i hd0)))), (0, .ref (ad L k)), (1, .int x)]) hx hb dX1_widthAt_46 hl (k := 1) rfl (iinc_1 _) (by decide) rfl (fun ls hl => ?_)
          refine lv_goto (tgt := 4) hx hb dX1_widthAt_49 (by decide) ?_
          exact ih_4 (i + 1) (acc + (h_w (A.getD i hd0))) (by omega) (by rw [ha, ed, wAt, if_neg (Int32.not_lt.mpr c_25)]) (by omega) _ _ _ h (lv_sub hl [0, 1, 2, 3] rfl)
        · refine lv_aload_n hx hb dX1_widthAt_28 rfl (lv_at hl 2 rfl) ?_
          refine g_greatests S hK h hk q_65 dX1_widthAt_29 ?_
          refine lv_iload_n hx hb dX1_widthAt_32 rfl (lv_at hl 1 rfl) ?_
          refine q_V1 (ci := 4) S hI hK h [.int (nI i)] (c_X4_at l L σ (kd1_7 hk) (by omega)) (kd1_7 hk) rfl (by decide) q_271 q_213 q_214 q_3 q_215 yd_X4_at rfl ⟨⟨rfl, rfl⟩, ⟨(Nat.le_of_ble_eq_true rfl), (Nat.le_of_ble_eq_true rfl)⟩, Nat.le_refl _, Nat.le_refl _⟩ rfl (Nat.le_of_ble_eq_true rfl) hl.1 dX1_widthAt_33 (fun H locs h => ?_)
          refine cv_i (show ((σ (k + 7)).getD i 0 : Int32) = h_g (A.getD i hd0) from (hv.g _)) ?_
          refine lv_aload_n hx hb dX1_widthAt_36 rfl (lv_at hl 2 rfl) ?_
          refine g_leasts S hK h hk q_62 dX1_widthAt_37 ?_
          refine lv_iload_n hx hb dX1_widthAt_40 rfl (lv_at hl 1 rfl) ?_
          refine q_V1 (ci := 4) S hI hK h [.int (nI i)] (c_X4_at l L σ (kd1_5 hk) (by omega)) (kd1_5 hk) rfl (by decide) q_271 q_213 q_214 q_3 q_215 yd_X4_at rfl ⟨⟨rfl, rfl⟩, ⟨(Nat.le_of_ble_eq_true rfl), (Nat.le_of_ble_eq_true rfl)⟩, Nat.le_refl _, Nat.le_refl _⟩ rfl (Nat.le_of_ble_eq_true rfl) hl.1 dX1_widthAt_41 (fun H locs h => ?_)
          refine cv_i (show ((σ (k + 5)).getD i 0 : Int32) = h_l (A.getD i hd0) from (hv.l _)) ?_
          refine lv_isub hx hb dX1_widthAt_44 ?_
          exact e_i S hK h hr hlk dX1_widthAt_45 (fin_p hp (by rw [ha, ed, wAt, if_pos (Int32.not_le.mp c_25)]) rfl)
  exact LP_4 _ 0 (nI 0) (by omega) rfl (Nat.lt_succ_self _) _ _ _ h (lv_sub hl [0, 1, 2, 3] rfl)

abbrev rJ9_floorDiv_f86c9 : Room := { frames := 0, cells := 0, slots := 0, locals := 0 }
theorem yd_J9_floorDiv_f86c9 : ydV yJ9_floorDiv_f86c9 RJ9 2 := ⟨rfl, by decide +kernel, by decide +kernel, by decide +kernel⟩
set_option maxHeartbeats 4000000 in
set_option maxRecDepth 100000 in
theorem c_J9_floorDiv_f86c9 (l : Launch) (L : Lay) (σ : St) (x y : Int64) (hy : ¬ y = 0) : Mf l L yJ9_floorDiv_f86c9 (Cond.code yJ9_floorDiv_f86c9 cJ9_floorDiv_f86c9 6 (some FieldType.long) :: qA) rJ9_floorDiv_f86c9 [.long x, .long y] σ (some (.long (fdv x y))) σ := by
  refine Mf.ofWF (by decide +kernel) (Nat.le_of_ble_eq_true rfl) ?_
  intro p e s m args below meth c ls post hp hI S hr hlk hK h hl
  have hx := S.1
  have hb := S.2.1
  have hok := h.ok
  have hl : lv_has ls 6 [(0, .long x), (2, .long y)] := hl
  refine lv_lload_n hx hb dJ9_floorDiv_f86c9_0 rfl (lv_at hl 0 rfl) ?_
  refine lv_lload_n hx hb dJ9_floorDiv_f86c9_1 rfl (lv_at hl 1 rfl) ?_
  refine lv_ldiv hx hb dJ9_floorDiv_f86c9_2 hy ?_
  refine lv_lstore (lv' := [(4, .long (x / y)), (0, .long x), (2, .long y)]) hx hb dJ9_floorDiv_f86c9_3 hl (by decide) rfl (fun ls hl => ?_)
  refine lv_lload_n hx hb dJ9_floorDiv_f86c9_5 rfl (lv_at hl 1 rfl) ?_
  refine lv_lload_n hx hb dJ9_floorDiv_f86c9_6 rfl (lv_at hl 2 rfl) ?_
  refine lv_lxor hx hb dJ9_floorDiv_f86c9_7 ?_
  refine lv_lconst (v := 0) hx hb dJ9_floorDiv_f86c9_8 (by decide) ?_
  refine lv_lcmpv hx hb dJ9_floorDiv_f86c9_9 ?_
  refine lc_ge (tgt := 27) hx hb dJ9_floorDiv_f86c9_10 (by decide) (fun c_10 => ?_) (fun c_10 => ?_)
  · refine lv_lload hx hb dJ9_floorDiv_f86c9_27 (lv_at hl 0 rfl) ?_
    exact e_l S hK h hr hlk dJ9_floorDiv_f86c9_29 (by first | exact fin_p hp (by rw [fdv, if_neg (fun q => Int64.not_lt.mpr c_10 q.1)]) rfl | exact fin_p hp (by rw [fdv, if_neg (fun q => q.2 c_19)]) rfl)
  · refine lv_lload hx hb dJ9_floorDiv_f86c9_13 (lv_at hl 0 rfl) ?_
    refine lv_lload_n hx hb dJ9_floorDiv_f86c9_15 rfl (lv_at hl 2 rfl) ?_
    refine lv_lmul hx hb dJ9_floorDiv_f86c9_16 ?_
    refine lv_lload_n hx hb dJ9_floorDiv_f86c9_17 rfl (lv_at hl 1 rfl) ?_
    refine lv_lcmpv hx hb dJ9_floorDiv_f86c9_18 ?_
    refine lc_eq (tgt := 27) hx hb dJ9_floorDiv_f86c9_19 (by decide) (fun c_19 => ?_) (fun c_19 => ?_)
    · refine lv_lload hx hb dJ9_floorDiv_f86c9_27 (lv_at hl 0 rfl) ?_
      exact e_l S hK h hr hlk dJ9_floorDiv_f86c9_29 (by first | exact fin_p hp (by rw [fdv, if_neg (fun q => Int64.not_lt.mpr c_10 q.1)]) rfl | exact fin_p hp (by rw [fdv, if_neg (fun q => q.2 c_19)]) rfl)
    · refine lv_lload hx hb dJ9_floorDiv_f86c9_22 (lv_at hl 0 rfl) ?_
      refine lv_lconst (v := 1) hx hb dJ9_floorDiv_f86c9_24 (by decide) ?_
      refine lv_lsub hx hb dJ9_floorDiv_f86c9_25 ?_
      exact e_l S hK h hr hlk dJ9_floorDiv_f86c9_26 (fin_p hp (by rw [fdv, if_pos ⟨c_10, c_19⟩]) rfl)

abbrev rX1_between : Room := { frames := 1, cells := 0, slots := 0, locals := 25 }
theorem yd_X1_between : ydV yX1_between RX1 7 := ⟨rfl, by decide +kernel, by decide +kernel, by decide +kernel⟩
set_option maxHeartbeats 4000000 in
set_option maxRecDepth 100000 in
theorem c_X1_between (l : Launch) (L : Lay) (σ : St) (su we pl ns nw np t : Int64) : Mf l L yX1_between (Cond.code yX1_between cX1_between 22 (some FieldType.int) :: qA) rX1_between [.long su, .long we, .long pl, .long ns, .long nw, .long np, .long t] σ (some (.int (btw su we pl ns nw np t))) σ := by
  refine Mf.ofW (by decide) (Nat.le_of_ble_eq_true rfl) ?_
  intro p e s m args below meth c ls post hp hI S hr hlk hK h hl
  have hx := S.1
  have hb := S.2.1
  have hok := h.ok
  have hl : lv_has ls 22 [(0, .long su), (2, .long we), (4, .long pl), (6, .long ns), (8, .long nw), (10, .long np), (12, .long t)] := hl
  refine lv_lload hx hb dX1_between_0 (lv_at hl 5 rfl) ?_
  refine lv_lload hx hb dX1_between_2 (lv_at hl 2 rfl) ?_
  refine lv_lsub hx hb dX1_between_4 ?_
  refine lv_lstore (lv' := [(14, .long (np - pl)), (0, .long su), (2, .long we), (4, .long pl), (6, .long ns), (8, .long nw), (10, .long np), (12, .long t)]) hx hb dX1_between_5 hl (by decide) rfl (fun ls hl => ?_)
  refine lv_lload_n hx hb dX1_between_7 rfl (lv_at hl 2 rfl) ?_
  refine lv_lload hx hb dX1_between_8 (lv_at hl 5 rfl) ?_
  refine lv_lmul hx hb dX1_between_10 ?_
  refine lv_lload hx hb dX1_between_11 (lv_at hl 0 rfl) ?_
  refine lv_lmul hx hb dX1_between_13 ?_
  refine lv_lstore (lv' := [(16, .long ((we * nw) * (np - pl))), (14, .long (np - pl)), (0, .long su), (2, .long we), (4, .long pl), (6, .long ns), (8, .long nw), (10, .long np), (12, .long t)]) hx hb dX1_between_14 hl (by decide) rfl (fun ls hl => ?_)
  refine lv_lload hx hb dX1_between_16 (lv_at hl 0 rfl) ?_
  refine lv_lconst (v := 0) hx hb dX1_between_18 (by decide) ?_
  refine lv_lcmpv hx hb dX1_between_19 ?_
  refine lc_gt (tgt := 25) hx hb dX1_between_20 (by decide) (fun c_20 => ?_) (fun c_20 => ?_)
  · have hnz : ¬ we * nw * (np - pl) = 0 := fun q => by rw [q] at c_20; exact absurd c_20 (by decide)
    refine lv_lload_n hx hb dX1_between_25 rfl (lv_at hl 2 rfl) ?_
    refine lv_lload hx hb dX1_between_26 (lv_at hl 6 rfl) ?_
    refine lv_lmul hx hb dX1_between_28 ?_
    refine lv_lstore (lv' := [(18, .long (su * nw)), (16, .long ((we * nw) * (np - pl))), (14, .long (np - pl)), (0, .long su), (2, .long we), (4, .long pl), (6, .long ns), (8, .long nw), (10, .long np), (12, .long t)]) hx hb dX1_between_29 hl (by decide) rfl (fun ls hl => ?_)
    refine lv_lload hx hb dX1_between_31 (lv_at hl 6 rfl) ?_
    refine lv_lload_n hx hb dX1_between_33 rfl (lv_at hl 4 rfl) ?_
    refine lv_lmul hx hb dX1_between_34 ?_
    refine lv_lload hx hb dX1_between_35 (lv_at hl 0 rfl) ?_
    refine lv_lsub hx hb dX1_between_37 ?_
    refine lv_lstore (lv' := [(20, .long ((ns * we) - (su * nw))), (18, .long (su * nw)), (16, .long ((we * nw) * (np - pl))), (14, .long (np - pl)), (0, .long su), (2, .long we), (4, .long pl), (6, .long ns), (8, .long nw), (10, .long np), (12, .long t)]) hx hb dX1_between_38 hl (by decide) rfl (fun ls hl => ?_)
    refine lv_lload hx hb dX1_between_40 (lv_at hl 1 rfl) ?_
    refine lv_lload hx hb dX1_between_42 (lv_at hl 3 rfl) ?_
    refine lv_lmul hx hb dX1_between_44 ?_
    refine lv_lload hx hb dX1_between_45 (lv_at hl 0 rfl) ?_
    refine lv_lload hx hb dX1_between_47 (lv_at hl 10 rfl) ?_
    refine lv_lload hx hb dX1_between_49 (lv_at hl 6 rfl) ?_
    refine lv_lsub hx hb dX1_between_51 ?_
    refine lv_lmul hx hb dX1_between_52 ?_
    refine lv_ladd hx hb dX1_between_53 ?_
    refine lv_lload hx hb dX1_between_54 (lv_at hl 2 rfl) ?_
    refine q_J1 S hI hK h [.long (((su * nw) * (np - pl)) + (((ns * we) - (su * nw)) * (t - pl))), .long ((we * nw) * (np - pl))] (c_J9_floorDiv_f86c9 l L σ (((su * nw) * (np - pl)) + (((ns * we) - (su * nw)) * (t - pl))) ((we * nw) * (np - pl)) hnz) q_495 q_496 q_4 q_497 yd_J9_floorDiv_f86c9 rfl ⟨⟨rfl, rfl⟩, ⟨(Nat.le_of_ble_eq_true rfl), (Nat.le_of_ble_eq_true rfl)⟩, Nat.le_refl _, Nat.le_refl _⟩ rfl (Nat.le_of_ble_eq_true rfl) hl.1 dX1_between_56 (fun H locs h => ?_)
    refine lv_l2i (v := (fdv (((su * nw) * (np - pl)) + (((ns * we) - (su * nw)) * (t - pl))) ((we * nw) * (np - pl))).toInt32) hx hb dX1_between_59 rfl ?_
    exact e_i S hK h hr hlk dX1_between_60 (fin_p hp (by rw [btw, if_neg (Int64.not_le.mpr c_20)]) rfl)
  · refine lv_iconst (v := (nI 0)) hx hb dX1_between_23 (by decide) ?_
    exact e_i S hK h hr hlk dX1_between_24 (fin_p hp (by rw [btw, if_pos c_20]; rfl) rfl)

abbrev rX1_quantileAt : Room := { frames := 2, cells := 0, slots := 0, locals := 66 }
theorem yd_X1_quantileAt : ydV yX1_quantileAt RX1 1 := ⟨rfl, by decide +kernel, by decide +kernel, by decide +kernel⟩
set_option maxHeartbeats 4000000 in
set_option maxRecDepth 100000 in
theorem c_X1_quantileAt (l : Launch) (L : Lay) (σ : St) {k : Nat} {A : List Hp} (hk : kd k = 1) (hv : HV σ k A) (q : Int32) : Mf l L yX1_quantileAt (Cond.code yX1_quantileAt cX1_quantileAt 12 (some FieldType.int) :: qA) rX1_quantileAt [.ref (ad L k), .int q] σ (some (.int (qAt A q))) σ := by
  refine Mf.ofW (by decide) (Nat.le_of_ble_eq_true rfl) ?_
  intro p e s m args below meth c ls post hp hI S hr hlk hK h hl
  have hx := S.1
  have hb := S.2.1
  have hok := h.ok
  have hl : lv_has ls 12 [(0, .ref (ad L k)), (1, .int q)] := hl
  have hA := hv.le hok hk
  have hg : imax (σ (k+7)) (σ (k+7)).length = imax (A.map h_g) A.length := by rw [hv.2.2.2, List.length_map]
  have hm : imin (σ (k+5)) (σ (k+5)).length = imin (A.map h_l) A.length := by rw [hv.2.2.1, List.length_map]
  refine lv_aload_n hx hb dX1_quantileAt_0 rfl (lv_at hl 0 rfl) ?_
  refine g_weights S hK h hk q_56 dX1_quantileAt_1 ?_
  refine q_V1 (ci := 4) S hI hK h [] (c_X4_total l L σ (kd1_1 hk)) (kd1_1 hk) rfl (by decide) q_305 q_209 q_210 q_3 q_211 yd_X4_total rfl ⟨⟨rfl, rfl⟩, ⟨(Nat.le_of_ble_eq_true rfl), (Nat.le_of_ble_eq_true rfl)⟩, Nat.le_refl _, Nat.le_refl _⟩ rfl (Nat.le_of_ble_eq_true rfl) hl.1 dX1_quantileAt_4 (fun H locs h => ?_)
  refine cv_i (show (isum (σ (k + 1)) (σ (k + 1)).length : Int32) = wTot A from hv.tot) ?_
  refine lv_istore_n (lv' := [(2, .int (wTot A)), (0, .ref (ad L k)), (1, .int q)]) hx hb dX1_quantileAt_7 rfl hl (by decide) rfl (fun ls hl => ?_)
  refine lv_iload_n hx hb dX1_quantileAt_8 rfl (lv_at hl 2 rfl) ?_
  refine lv_iload_n hx hb dX1_quantileAt_9 rfl (lv_at hl 0 rfl) ?_
  refine lv_imul hx hb dX1_quantileAt_10 ?_
  refine lv_istore_n (lv' := [(3, .int (q * (wTot A))), (2, .int (wTot A)), (0, .ref (ad L k)), (1, .int q)]) hx hb dX1_quantileAt_11 rfl hl (by decide) rfl (fun ls hl => ?_)
  refine lv_iconst (v := (nI 0)) hx hb dX1_quantileAt_12 (by decide) ?_
  refine lv_istore (lv' := [(4, .int (nI 0)), (3, .int (q * (wTot A))), (2, .int (wTot A)), (0, .ref (ad L k)), (1, .int q)]) hx hb dX1_quantileAt_13 hl (by decide) rfl (fun ls hl => ?_)
  refine lv_iconst (v := (nI 0)) hx hb dX1_quantileAt_15 (by decide) ?_
  refine lv_istore (lv' := [(5, .int (nI 0)), (4, .int (nI 0)), (3, .int (q * (wTot A))), (2, .int (wTot A)), (0, .ref (ad L k)), (1, .int q)]) hx hb dX1_quantileAt_16 hl (by decide) rfl (fun ls hl => ?_)
  refine lv_aload_n hx hb dX1_quantileAt_18 rfl (lv_at hl 4 rfl) ?_
  refine g_leasts S hK h hk q_62 dX1_quantileAt_19 ?_
  refine q_V1 (ci := 4) S hI hK h [] (c_X4_least l L σ (kd1_5 hk)) (kd1_5 hk) rfl (by decide) q_491 q_455 q_456 q_3 q_457 yd_X4_least rfl ⟨⟨rfl, rfl⟩, ⟨(Nat.le_of_ble_eq_true rfl), (Nat.le_of_ble_eq_true rfl)⟩, Nat.le_refl _, Nat.le_refl _⟩ rfl (Nat.le_of_ble_eq_true rfl) hl.1 dX1_quantileAt_22 (fun H locs h => ?_)
  refine cv_i (show (imin (σ (k + 5)) (σ (k + 5)).length : Int32) = imin (A.map h_l) A.length from hm) ?_
  refine lv_istore (lv' := [(6, .int (imin (A.map h_l) A.length)), (5, .int (nI 0)), (4, .int (nI 0)), (3, .int (q * (wTot A))), (2, .int (wTot A)), (0, .ref (ad L k)), (1, .int q)]) hx hb dX1_quantileAt_25 hl (by decide) rfl (fun ls hl => ?_)
  refine lv_iconst (v := (nI 1)) hx hb dX1_quantileAt_27 (by decide) ?_
  refine lv_istore (lv' := [(7, .int (nI 1)), (6, .int (imin (A.map h_l) A.length)), (5, .int (nI 0)), (4, .int (nI 0)), (3, .int (q * (wTot A))), (2, .int (wTot A)), (0, .ref (ad L k)), (1, .int q)]) hx hb dX1_quantileAt_28 hl (by decide) rfl (fun ls hl => ?_)
  refine lv_iconst (v := (nI 0)) hx hb dX1_quantileAt_30 (by decide) ?_
  refine lv_istore (lv' := [(8, .int (nI 0)), (7, .int (nI 1)), (6, .int (imin (A.map h_l) A.length)), (5, .int (nI 0)), (4, .int (nI 0)), (3, .int (q * (wTot A))), (2, .int (wTot A)), (0, .ref (ad L k)), (1, .int q)]) hx hb dX1_quantileAt_31 hl (by decide) rfl (fun ls hl => ?_)
  have LP_33 : ∀ (n_33 : Nat) (i : Nat) (ah : Int32) (pl : Int32) (su : Int32) (we : Int32), (i ≤ A.length) → (qAt A q = qScan (imax (A.map h_g) A.length) (wTot A) (q * wTot A) ah pl su we (A.drop i)) → A.length - i < n_33 → ∀ (H : Heap) (locs : List Loc) (ls : Array Slot), Hd L s.heap H σ locs → lv_has ls 12 [(8, .int (nI i)), (7, .int we), (6, .int su), (5, .int pl), (4, .int ah), (3, .int (q * wTot A)), (2, .int (wTot A)), (0, .ref (ad L k)), (1, .int q)] → W p l e rX1_quantileAt s m args below meth c H locs 0 0 (MQ below (Qg post (bs L) (Aw L)) args s 0 0 (Aw L)) (F0 m 33 ls []) := by
    intro n_33
    induction n_33 with
    | zero => intro i ah pl su we; intros; omega
    | succ n_33 ih_33 =>
      intro i ah pl su we hi hq hm_33 H locs ls h hl
      have hok := h.ok
      refine lv_iload hx hb dX1_quantileAt_33 (lv_at hl 0 rfl) ?_
      refine lv_aload_n hx hb dX1_quantileAt_35 rfl (lv_at hl 7 rfl) ?_
      refine q_V1 (ci := 1) S hI hK h [] (c_X1_size l L σ hk hv) hk rfl (by decide) q_285 q_286 q_287 q_6 q_288 yd_X1_size rfl ⟨⟨rfl, rfl⟩, ⟨(Nat.le_of_ble_eq_true rfl), (Nat.le_of_ble_eq_true rfl)⟩, Nat.le_refl _, Nat.le_refl _⟩ rfl (Nat.le_of_ble_eq_true rfl) hl.1 dX1_quantileAt_36 (fun H locs h => ?_)
      refine b_icmp_ge (tgt := 134) hx hb dX1_quantileAt_39 (by decide) (by omega) (by omega) (fun c_39 => ?_) (fun c_39 => ?_)
      · have e4 : A.drop i = [] := List.drop_of_length_le (by omega)
        refine lv_iload hx hb dX1_quantileAt_134 (lv_at hl 2 rfl) ?_
        refine lv_i2l (v := su.toInt64) hx hb dX1_quantileAt_136 rfl ?_
        refine lv_iload hx hb dX1_quantileAt_137 (lv_at hl 1 rfl) ?_
        refine lv_i2l (v := we.toInt64) hx hb dX1_quantileAt_139 rfl ?_
        refine lv_iload hx hb dX1_quantileAt_140 (lv_at hl 3 rfl) ?_
        refine lv_i2l (v := pl.toInt64) hx hb dX1_quantileAt_142 rfl ?_
        refine lv_aload_n hx hb dX1_quantileAt_143 rfl (lv_at hl 7 rfl) ?_
        refine g_greatests S hK h hk q_65 dX1_quantileAt_144 ?_
        refine q_V1 (ci := 4) S hI hK h [] (c_X4_greatest l L σ (kd1_7 hk)) (kd1_7 hk) rfl (by decide) q_498 q_465 q_466 q_3 q_467 yd_X4_greatest rfl ⟨⟨rfl, rfl⟩, ⟨(Nat.le_of_ble_eq_true rfl), (Nat.le_of_ble_eq_true rfl)⟩, Nat.le_refl _, Nat.le_refl _⟩ rfl (Nat.le_of_ble_eq_true rfl) hl.1 dX1_quantileAt_147 (fun H locs h => ?_)
        refine cv_i (show (imax (σ (k + 7)) (σ (k + 7)).length : Int32) = imax (A.map h_g) A.length from hg) ?_
        refine lv_i2l (v := (imax (A.map h_g) A.length).toInt64) hx hb dX1_quantileAt_150 rfl ?_
        refine lv_lconst (v := 1) hx hb dX1_quantileAt_151 (by decide) ?_
        refine lv_sipush (v := (nI 1000)) hx hb dX1_quantileAt_152 (by decide) ?_
        refine lv_iload_n hx hb dX1_quantileAt_155 rfl (lv_at hl 6 rfl) ?_
        refine lv_imul hx hb dX1_quantileAt_156 ?_
        refine lv_i2l (v := ((nI 1000) * (wTot A)).toInt64) hx hb dX1_quantileAt_157 rfl ?_
        refine lv_iload_n hx hb dX1_quantileAt_158 rfl (lv_at hl 5 rfl) ?_
        refine lv_i2l (v := (q * wTot A).toInt64) hx hb dX1_quantileAt_159 rfl ?_
        refine q_S1 S hI hK h [.long su.toInt64, .long we.toInt64, .long pl.toInt64, .long ((imax (A.map h_g) A.length).toInt64), .long (1 : Int64), .long (((nI 1000) * (wTot A)).toInt64), .long ((q * wTot A).toInt64)] (c_X1_between l L σ su.toInt64 we.toInt64 pl.toInt64 ((imax (A.map h_g) A.length).toInt64) (1 : Int64) (((nI 1000) * (wTot A)).toInt64) ((q * wTot A).toInt64)) q_492 q_493 q_6 q_494 yd_X1_between rfl ⟨⟨rfl, rfl⟩, ⟨(Nat.le_of_ble_eq_true rfl), (Nat.le_of_ble_eq_true rfl)⟩, Nat.le_refl _, Nat.le_refl _⟩ rfl (Nat.le_of_ble_eq_true rfl) hl.1 dX1_quantileAt_160 (fun H locs h => ?_)
        exact e_i S hK h hr hlk dX1_quantileAt_163 (fin_p hp (by rw [hq, e4, qScan]) rfl)
      · have ed := drop_getD (d := hd0) c_39
        refine lv_aload_n hx hb dX1_quantileAt_42 rfl (lv_at hl 7 rfl) ?_
        refine g_sums S hK h hk q_59 dX1_quantileAt_43 ?_
        refine lv_iload hx hb dX1_quantileAt_46 (lv_at hl 0 rfl) ?_
        refine q_V1 (ci := 4) S hI hK h [.int (nI i)] (c_X4_at l L σ (kd1_3 hk) (by omega)) (kd1_3 hk) rfl (by decide) q_271 q_213 q_214 q_3 q_215 yd_X4_at rfl ⟨⟨rfl, rfl⟩, ⟨(Nat.le_of_ble_eq_true rfl), (Nat.le_of_ble_eq_true rfl)⟩, Nat.le_refl _, Nat.le_refl _⟩ rfl (Nat.le_of_ble_eq_true rfl) hl.1 dX1_quantileAt_48 (fun H locs h => ?_)
        refine cv_i (show ((σ (k + 3)).getD i 0 : Int32) = h_s (A.getD i hd0) from (hv.s _)) ?_
        refine lv_istore (lv' := [(9, .int (h_s (A.getD i hd0))), (8, .int (nI i)), (7, .int we), (6, .int su), (5, .int pl), (4, .int ah), (3, .int (q * wTot A)), (2, .int (wTot A)), (0, .ref (ad L k)), (1, .int q)]) hx hb dX1_quantileAt_51 hl (by decide) rfl (fun ls hl => ?_)
        refine lv_aload_n hx hb dX1_quantileAt_53 rfl (lv_at hl 8 rfl) ?_
        refine g_weights S hK h hk q_56 dX1_quantileAt_54 ?_
        refine lv_iload hx hb dX1_quantileAt_57 (lv_at hl 1 rfl) ?_
        refine q_V1 (ci := 4) S hI hK h [.int (nI i)] (c_X4_at l L σ (kd1_1 hk) (by omega)) (kd1_1 hk) rfl (by decide) q_271 q_213 q_214 q_3 q_215 yd_X4_at rfl ⟨⟨rfl, rfl⟩, ⟨(Nat.le_of_ble_eq_true rfl), (Nat.le_of_ble_eq_true rfl)⟩, Nat.le_refl _, Nat.le_refl _⟩ rfl (Nat.le_of_ble_eq_true rfl) hl.1 dX1_quantileAt_59 (fun H locs h => ?_)
        refine cv_i (show ((σ (k + 1)).getD i 0 : Int32) = h_w (A.getD i hd0) from (hv.w _)) ?_
        refine lv_istore (lv' := [(10, .int (h_w (A.getD i hd0))), (9, .int (h_s (A.getD i hd0))), (8, .int (nI i)), (7, .int we), (6, .int su), (5, .int pl), (4, .int ah), (3, .int (q * wTot A)), (2, .int (wTot A)), (0, .ref (ad L k)), (1, .int q)]) hx hb dX1_quantileAt_62 hl (by decide) rfl (fun ls hl => ?_)
        refine lv_sipush (v := (nI 1000)) hx hb dX1_quantileAt_64 (by decide) ?_
        refine lv_iload hx hb dX1_quantileAt_67 (lv_at hl 6 rfl) ?_
        refine lv_imul hx hb dX1_quantileAt_69 ?_
        refine lv_sipush (v := (nI 500)) hx hb dX1_quantileAt_70 (by decide) ?_
        refine lv_iload hx hb dX1_quantileAt_73 (lv_at hl 0 rfl) ?_
        refine lv_imul hx hb dX1_quantileAt_75 ?_
        refine lv_iadd hx hb dX1_quantileAt_76 ?_
        refine lv_istore (lv' := [(11, .int (((nI 1000) * ah) + ((nI 500) * (h_w (A.getD i hd0))))), (10, .int (h_w (A.getD i hd0))), (9, .int (h_s (A.getD i hd0))), (8, .int (nI i)), (7, .int we), (6, .int su), (5, .int pl), (4, .int ah), (3, .int (q * wTot A)), (2, .int (wTot A)), (0, .ref (ad L k)), (1, .int q)]) hx hb dX1_quantileAt_77 hl (by decide) rfl (fun ls hl => ?_)
        refine lv_iload_n hx hb dX1_quantileAt_79 rfl (lv_at hl 8 rfl) ?_
        refine lv_iload hx hb dX1_quantileAt_80 (lv_at hl 0 rfl) ?_
        refine lv_icmp_gt (tgt := 109) hx hb dX1_quantileAt_82 (by decide) (fun c_82 => ?_) (fun c_82 => ?_)
        · refine lv_iload hx hb dX1_quantileAt_109 (lv_at hl 7 rfl) ?_
          refine lv_iload hx hb dX1_quantileAt_111 (lv_at hl 1 rfl) ?_
          refine lv_iadd hx hb dX1_quantileAt_113 ?_
          refine lv_istore (lv' := [(4, .int (ah + (h_w (A.getD i hd0)))), (11, .int (((nI 1000) * ah) + ((nI 500) * (h_w (A.getD i hd0))))), (10, .int (h_w (A.getD i hd0))), (9, .int (h_s (A.getD i hd0))), (8, .int (nI i)), (7, .int we), (6, .int su), (5, .int pl), (3, .int (q * wTot A)), (2, .int (wTot A)), (0, .ref (ad L k)), (1, .int q)]) hx hb dX1_quantileAt_114 hl (by decide) rfl (fun ls hl => ?_)
          refine lv_iload hx hb dX1_quantileAt_116 (lv_at hl 1 rfl) ?_
          refine lv_istore (lv' := [(5, .int (((nI 1000) * ah) + ((nI 500) * (h_w (A.getD i hd0))))), (4, .int (ah + (h_w (A.getD i hd0)))), (11, .int (((nI 1000) * ah) + ((nI 500) * (h_w (A.getD i hd0))))), (10, .int (h_w (A.getD i hd0))), (9, .int (h_s (A.getD i hd0))), (8, .int (nI i)), (7, .int we), (6, .int su), (3, .int (q * wTot A)), (2, .int (wTot A)), (0, .ref (ad L k)), (1, .int q)]) hx hb dX1_quantileAt_118 hl (by decide) rfl (fun ls hl => ?_)
          refine lv_iload hx hb dX1_quantileAt_120 (lv_at hl 4 rfl) ?_
          refine lv_istore (lv' := [(6, .int (h_s (A.getD i hd0))), (5, .int (((nI 1000) * ah) + ((nI 500) * (h_w (A.getD i hd0))))), (4, .int (ah + (h_w (A.getD i hd0)))), (11, .int (((nI 1000) * ah) + ((nI 500) * (h_w (A.getD i hd0))))), (10, .int (h_w (A.getD i hd0))), (9, .int (h_s (A.getD i hd0))), (8, .int (nI i)), (7, .int we), (3, .int (q * wTot A)), (2, .int (wTot A)), (0, .ref (ad L k)), (1, .int q)]) hx hb dX1_quantileAt_122 hl (by decide) rfl (fun ls hl => ?_)
          refine lv_iload hx hb dX1_quantileAt_124 (lv_at hl 4 rfl) ?_
          refine lv_istore (lv' := [(7, .int (h_w (A.getD i hd0))), (6, .int (h_s (A.getD i hd0))), (5, .int (((nI 1000) * ah) + ((nI 500) * (h_w (A.getD i hd0))))), (4, .int (ah + (h_w (A.getD i hd0)))), (11, .int (((nI 1000) * ah) + ((nI 500) * (h_w (A.getD i hd0))))), (10, .int (h_w (A.getD i hd0))), (9, .int (h_s (A.getD i hd0))), (8, .int (nI i)), (3, .int (q * wTot A)), (2, .int (wTot A)), (0, .ref (ad L k)), (1, .int q)]) hx hb dX1_quantileAt_126 hl (by decide) rfl (fun ls hl => ?_)
          refine lv_iinc (v := (nI (i + 1))) (lv' := [(8, .int (nI (i + 1))), (7, .int (h_w (A.getD i hd0))), (6, .int (h_s (A.getD i hd0))), (5, .int (((nI 1000) * ah) + ((nI 500) * (h_w (A.getD i hd0))))), (4, .int (ah + (h_w (A.getD i hd0)))), (11, .int (((nI 1000) * ah) + ((nI 500) * (h_w (A.getD i hd0))))), (10, .int (h_w (A.getD i hd0))), (9, .int (h_s (A.getD i hd0))), (3, .int (q * wTot A)), (2, .int (wTot A)), (0, .ref (ad L k)), (1, .int q)]) hx hb dX1_quantileAt_128 hl (k := 7) rfl (iinc_1 _) (by decide) rfl (fun ls hl => ?_)
          refine lv_goto (tgt := 33) hx hb dX1_quantileAt_131 (by decide) ?_
          exact ih_33 (i + 1) (ah + (h_w (A.getD i hd0))) (((nI 1000) * ah) + ((nI 500) * (h_w (A.getD i hd0)))) (h_s (A.getD i hd0)) (h_w (A.getD i hd0)) (by omega) (by rw [hq, ed, qScan, if_neg (Int32.not_le.mpr c_82)]) (by omega) _ _ _ h (lv_sub hl [0, 1, 2, 3, 4, 8, 9, 10, 11] rfl)
        · refine lv_iload hx hb dX1_quantileAt_85 (lv_at hl 5 rfl) ?_
          refine lv_i2l (v := su.toInt64) hx hb dX1_quantileAt_87 rfl ?_
          refine lv_iload hx hb dX1_quantileAt_88 (lv_at hl 4 rfl) ?_
          refine lv_i2l (v := we.toInt64) hx hb dX1_quantileAt_90 rfl ?_
          refine lv_iload hx hb dX1_quantileAt_91 (lv_at hl 6 rfl) ?_
          refine lv_i2l (v := pl.toInt64) hx hb dX1_quantileAt_93 rfl ?_
          refine lv_iload hx hb dX1_quantileAt_94 (lv_at hl 2 rfl) ?_
          refine lv_i2l (v := (h_s (A.getD i hd0)).toInt64) hx hb dX1_quantileAt_96 rfl ?_
          refine lv_iload hx hb dX1_quantileAt_97 (lv_at hl 1 rfl) ?_
          refine lv_i2l (v := (h_w (A.getD i hd0)).toInt64) hx hb dX1_quantileAt_99 rfl ?_
          refine lv_iload hx hb dX1_quantileAt_100 (lv_at hl 0 rfl) ?_
          refine lv_i2l (v := (((nI 1000) * ah) + ((nI 500) * (h_w (A.getD i hd0)))).toInt64) hx hb dX1_quantileAt_102 rfl ?_
          refine lv_iload_n hx hb dX1_quantileAt_103 rfl (lv_at hl 8 rfl) ?_
          refine lv_i2l (v := (q * wTot A).toInt64) hx hb dX1_quantileAt_104 rfl ?_
          refine q_S1 S hI hK h [.long su.toInt64, .long we.toInt64, .long pl.toInt64, .long ((h_s (A.getD i hd0)).toInt64), .long ((h_w (A.getD i hd0)).toInt64), .long ((((nI 1000) * ah) + ((nI 500) * (h_w (A.getD i hd0)))).toInt64), .long ((q * wTot A).toInt64)] (c_X1_between l L σ su.toInt64 we.toInt64 pl.toInt64 ((h_s (A.getD i hd0)).toInt64) ((h_w (A.getD i hd0)).toInt64) ((((nI 1000) * ah) + ((nI 500) * (h_w (A.getD i hd0)))).toInt64) ((q * wTot A).toInt64)) q_492 q_493 q_6 q_494 yd_X1_between rfl ⟨⟨rfl, rfl⟩, ⟨(Nat.le_of_ble_eq_true rfl), (Nat.le_of_ble_eq_true rfl)⟩, Nat.le_refl _, Nat.le_refl _⟩ rfl (Nat.le_of_ble_eq_true rfl) hl.1 dX1_quantileAt_105 (fun H locs h => ?_)
          exact e_i S hK h hr hlk dX1_quantileAt_108 (fin_p hp (by rw [hq, ed, qScan, if_pos (Int32.not_lt.mp c_82)]) rfl)
  exact LP_33 _ 0 (nI 0) (nI 0) (imin (A.map h_l) A.length) (nI 1) (by omega) rfl (Nat.lt_succ_self _) _ _ _ h (lv_sub hl [0, 1, 2, 3, 4, 5, 6, 7, 8] rfl)

abbrev rX1_greatestQAtMost : Room := { frames := 3, cells := 0, slots := 0, locals := 97 }
theorem yd_X1_greatestQAtMost : ydV yX1_greatestQAtMost RX1 1 := ⟨rfl, by decide +kernel, by decide +kernel, by decide +kernel⟩
set_option maxHeartbeats 4000000 in
set_option maxRecDepth 100000 in
theorem c_X1_greatestQAtMost (l : Launch) (L : Lay) (σ : St) {k : Nat} {A : List Hp} (hk : kd k = 1) (hv : HV σ k A) (v : Int32) : Mf l L yX1_greatestQAtMost (Cond.code yX1_greatestQAtMost cX1_greatestQAtMost 4 (some FieldType.int) :: qA) rX1_greatestQAtMost [.ref (ad L k), .int v] σ (some (.int (rkS A v 10 (-1)))) σ := by
  refine Mf.ofW (by decide) (Nat.le_of_ble_eq_true rfl) ?_
  intro p e s m args below meth c ls post hp hI S hr hlk hK h hl
  have hx := S.1
  have hb := S.2.1
  have hok := h.ok
  have hl : lv_has ls 4 [(0, .ref (ad L k)), (1, .int v)] := hl
  refine lv_iconst (v := (-1)) hx hb dX1_greatestQAtMost_0 (by decide) ?_
  refine lv_istore_n (lv' := [(2, .int (-1)), (0, .ref (ad L k)), (1, .int v)]) hx hb dX1_greatestQAtMost_1 rfl hl (by decide) rfl (fun ls hl => ?_)
  refine lv_sipush (v := (nI 512)) hx hb dX1_greatestQAtMost_2 (by decide) ?_
  refine lv_istore_n (lv' := [(3, .int (nI 512)), (2, .int (-1)), (0, .ref (ad L k)), (1, .int v)]) hx hb dX1_greatestQAtMost_5 rfl hl (by decide) rfl (fun ls hl => ?_)
  have LP_6 : ∀ (n_6 : Nat) (j : Nat) (st : Nat) (q : Int32), (j ≤ 10) → (st = pw j) → (rkS A v j q = rkS A v 10 (-1)) → j < n_6 → ∀ (H : Heap) (locs : List Loc) (ls : Array Slot), Hd L s.heap H σ locs → lv_has ls 4 [(3, .int (nI st)), (2, .int q), (0, .ref (ad L k)), (1, .int v)] → W p l e rX1_greatestQAtMost s m args below meth c H locs 0 0 (MQ below (Qg post (bs L) (Aw L)) args s 0 0 (Aw L)) (F0 m 6 ls []) := by
    intro n_6
    induction n_6 with
    | zero => intro j st q; intros; omega
    | succ n_6 ih_6 =>
      intro j st q hj hst hq hm_6 H locs ls h hl
      have hok := h.ok
      have hst2 : st < 2 ^ 31 := by rcases j with _ | j; (rw [hst]; decide); (have := pw_le j (by omega); rw [hst]; show 2 ^ j < _; omega)
      refine lv_iload_n hx hb dX1_greatestQAtMost_6 rfl (lv_at hl 0 rfl) ?_
      refine b_if_le (tgt := 41) hx hb dX1_greatestQAtMost_7 (by decide) hst2 (fun c_7 => ?_) (fun c_7 => ?_)
      · have e4 : j = 0 := by rcases j with _ | j; rfl; (rw [hst] at c_7; have : 0 < 2 ^ j := Nat.two_pow_pos j; exact absurd c_7 (by show ¬ 2 ^ j = 0; omega))
        refine lv_iload_n hx hb dX1_greatestQAtMost_41 rfl (lv_at hl 1 rfl) ?_
        exact e_i S hK h hr hlk dX1_greatestQAtMost_42 (fin_p hp (by rw [← hq, e4]; rfl) rfl)
      · obtain ⟨j1, rfl⟩ : ∃ j1, j = j1 + 1 := by rcases j with _ | j; (rw [hst] at c_7; exact absurd c_7 (by decide)); exact ⟨j, rfl⟩
        have hst3 : st = 2 ^ j1 := hst
        subst hst3
        have hpw := pw_le j1 (by omega)
        have CT_34 : ∀ (q2 : Int32) (H : Heap) (locs : List Loc) (ls : Array Slot), (rkS A v j1 q2 = rkS A v 10 (-1)) → Hd L s.heap H σ locs → lv_has ls 4 [(3, .int (nI (2 ^ j1))), (2, .int q2), (0, .ref (ad L k)), (1, .int v)] → W p l e rX1_greatestQAtMost s m args below meth c H locs 0 0 (MQ below (Qg post (bs L) (Aw L)) args s 0 0 (Aw L)) (F0 m 34 ls []) := by
          intro q2 H locs ls hq2 h hl
          have hok := h.ok
          refine lv_iload_n hx hb dX1_greatestQAtMost_34 rfl (lv_at hl 0 rfl) ?_
          refine lv_iconst (v := (nI 2)) hx hb dX1_greatestQAtMost_35 (by decide) ?_
          refine a_idiv hx hb dX1_greatestQAtMost_36 (by omega) (by omega) (by omega) ?_
          refine lv_istore_n (lv' := [(3, .int (nI ((2 ^ j1) / 2))), (2, .int q2), (0, .ref (ad L k)), (1, .int v)]) hx hb dX1_greatestQAtMost_37 rfl hl (by decide) rfl (fun ls hl => ?_)
          refine lv_goto (tgt := 6) hx hb dX1_greatestQAtMost_38 (by decide) ?_
          exact ih_6 j1 ((2 ^ j1) / 2) q2 (by omega) (pw_half j1) hq2 (by omega) _ _ _ h (lv_sub hl [0, 1, 2, 3] rfl)
        refine lv_iload_n hx hb dX1_greatestQAtMost_10 rfl (lv_at hl 1 rfl) ?_
        refine lv_iload_n hx hb dX1_greatestQAtMost_11 rfl (lv_at hl 0 rfl) ?_
        refine lv_iadd hx hb dX1_greatestQAtMost_12 ?_
        refine lv_sipush (v := (nI 1000)) hx hb dX1_greatestQAtMost_13 (by decide) ?_
        refine lv_icmp_gt (tgt := 34) hx hb dX1_greatestQAtMost_16 (by decide) (fun c_16 => ?_) (fun c_16 => ?_)
        · exact CT_34 q _ _ _ (by rw [← hq, rkS, if_neg (fun z => Int32.not_le.mpr c_16 z.1)]) h (lv_sub hl [0, 1, 2, 3] rfl)
        · refine lv_aload_n hx hb dX1_greatestQAtMost_19 rfl (lv_at hl 2 rfl) ?_
          refine lv_iload_n hx hb dX1_greatestQAtMost_20 rfl (lv_at hl 1 rfl) ?_
          refine lv_iload_n hx hb dX1_greatestQAtMost_21 rfl (lv_at hl 0 rfl) ?_
          refine lv_iadd hx hb dX1_greatestQAtMost_22 ?_
          refine q_V1 (ci := 1) S hI hK h [.int (q + (nI (2 ^ j1)))] (c_X1_quantileAt l L σ hk hv  (q + (nI (2 ^ j1)))) hk rfl (by decide) q_534 q_488 q_489 q_6 q_490 yd_X1_quantileAt rfl ⟨⟨rfl, rfl⟩, ⟨(Nat.le_of_ble_eq_true rfl), (Nat.le_of_ble_eq_true rfl)⟩, Nat.le_refl _, Nat.le_refl _⟩ rfl (Nat.le_of_ble_eq_true rfl) hl.1 dX1_greatestQAtMost_23 (fun H locs h => ?_)
          refine lv_iload_n hx hb dX1_greatestQAtMost_26 rfl (lv_at hl 3 rfl) ?_
          refine lv_icmp_gt (tgt := 34) hx hb dX1_greatestQAtMost_27 (by decide) (fun c_27 => ?_) (fun c_27 => ?_)
          · exact CT_34 q _ _ _ (by rw [← hq, rkS, if_neg (fun z => Int32.not_le.mpr c_27 z.2)]) h (lv_sub hl [0, 1, 2, 3] rfl)
          · refine lv_iload_n hx hb dX1_greatestQAtMost_30 rfl (lv_at hl 1 rfl) ?_
            refine lv_iload_n hx hb dX1_greatestQAtMost_31 rfl (lv_at hl 0 rfl) ?_
            refine lv_iadd hx hb dX1_greatestQAtMost_32 ?_
            refine lv_istore_n (lv' := [(2, .int (q + (nI (2 ^ j1)))), (3, .int (nI (2 ^ j1))), (0, .ref (ad L k)), (1, .int v)]) hx hb dX1_greatestQAtMost_33 rfl hl (by decide) rfl (fun ls hl => ?_)
            exact CT_34 (q + (nI (2 ^ j1))) _ _ _ (by rw [← hq, rkS, if_pos ⟨Int32.not_lt.mp c_16, Int32.not_lt.mp c_27⟩]) h (lv_sub hl [1, 0, 2, 3] rfl)
  exact LP_6 _ 10 512 (-1) (by omega) rfl rfl (Nat.lt_succ_self _) _ _ _ h (lv_sub hl [0, 1, 2, 3] rfl)

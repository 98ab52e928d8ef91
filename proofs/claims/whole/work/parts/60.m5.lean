abbrev rX8_packs : Room := { frames := 4, cells := 0, slots := 0, locals := 88 }
theorem yd_X8_packs : ydV yX8_packs RX8 1 := ⟨rfl, by decide +kernel, by decide +kernel, by decide +kernel⟩
set_option maxHeartbeats 4000000 in
set_option maxRecDepth 100000 in
theorem c_X8_packs (l : Launch) (L : Lay) (σ : Me) {X : SS} {d : Nat} (hS : MS (σ 1) X) (hX : XI X) (hd : d < 3) (hG : ∀ x ∈ (X.2.2 d).1 ++ (X.2.2 d).2.1.map hunit, GH x) : Mg8 l L yX8_packs (Cond.code yX8_packs cX8_packs 2 none :: qA) rX8_packs [.ref (ad L 0), .int (nI d)] σ (fun r u => r = none ∧ MS (u 1) (setD X d (pkD X.1 (X.2.2 d))) ∧ HL u (trL X d) ∧ Oq σ u) := by
  refine Mr8_ofW (by decide) (Nat.le_of_ble_eq_true rfl) ?_
  intro p e s m args below meth c ls post hp hI S hr hlk hK h hl
  have hx := S.1
  have hb := S.2.1
  have hl : lv_has ls 2 [(0, .ref (ad L 0)), (1, .int (nI d))] := hl
  refine lv_aload_n hx hb dX8_packs_0 rfl (lv_at hl 0 rfl) ?_
  refine lv_iload_n hx hb dX8_packs_1 rfl (lv_at hl 1 rfl) ?_
  refine q_VR8 S hI hK h [.int (nI d)] (c_X8_findPacked l L σ hS hX hd hG) q_677 q_679 qs_17 q_10 q_680 yd_X8_findPacked rfl ⟨⟨rfl, rfl⟩, ⟨(Nat.le_of_ble_eq_true rfl), (Nat.le_of_ble_eq_true rfl)⟩, Nat.le_refl _, Nat.le_refl _⟩ rfl (Nat.le_of_ble_eq_true rfl) hl.1 dX8_packs_2 (fun σ1 H locs hp9 h => ?_)
  obtain ⟨hL1, hO1⟩ := hp9
  refine lv_aload_n hx hb dX8_packs_5 rfl (lv_at hl 0 rfl) ?_
  refine lv_iload_n hx hb dX8_packs_6 rfl (lv_at hl 1 rfl) ?_
  refine q_VR8 S hI hK h [.int (nI d)] (c_X8_giveHeaps l L σ1 (by rw [hO1.r1]; exact hS) hX hd hL1 (trL_len hX hd)) q_709 q_711 qs_25 q_10 q_712 yd_X8_giveHeaps rfl ⟨⟨rfl, rfl⟩, ⟨(Nat.le_of_ble_eq_true rfl), (Nat.le_of_ble_eq_true rfl)⟩, Nat.le_refl _, Nat.le_refl _⟩ rfl (Nat.le_of_ble_eq_true rfl) hl.1 dX8_packs_7 (fun σ2 H locs hp9 h => ?_)
  obtain ⟨hS2, ho2⟩ := hp9
  obtain ⟨m1, m2, m3, m4, m5, m6, m7⟩ := MS_D hS2 hd
  refine lv_aload_n hx hb dX8_packs_10 rfl (lv_at hl 0 rfl) ?_
  refine lv_iload_n hx hb dX8_packs_11 rfl (lv_at hl 1 rfl) ?_
  refine lv_iconst (v := (nI 1)) hx hb dX8_packs_12 (by decide) ?_
  refine lv_iconst (v := (nI 0)) hx hb dX8_packs_13 (by decide) ?_
  refine q_V08 S hI hK h [.int (nI d), .int (nI 1), .int (nI 0)] (c_X8_setPart l L σ2 (d := d) (q := 1) (by omega) (nI 0)) q_713 q_715 qs_26 q_10 q_716 yd_X8_setPart rfl ⟨⟨rfl, rfl⟩, ⟨(Nat.le_of_ble_eq_true rfl), (Nat.le_of_ble_eq_true rfl)⟩, Nat.le_refl _, Nat.le_refl _⟩ rfl (Nat.le_of_ble_eq_true rfl) hl.1 dX8_packs_14 (fun H locs h => ?_)
  exact e_v8 S hK h hr hlk dX8_packs_17 (hp _ _ ⟨rfl, MS_of2 hS2 hX.L (fun i hi => mu_i (by omega)) ⟨by rw [mu_i (by omega)]; exact m1, mu_s, by rw [mu_i (by omega)]; exact m3, by rw [mu_i (by omega)]; exact m4, fun i hi => by (unfold hpS); rw [mu_i (by omega), mu_i (by omega), mu_i (by omega), mu_i (by omega)]; exact m5 i hi, fun i hi => absurd hi (Nat.not_lt_zero _), fun i hi => by rw [mu_i (by omega)]; exact m7 i hi⟩, HL_k hL1 (fun k hk => by rw [mu_r hk]; exact ho2 k hk), hO1.q.tr (Oq.of1 (fun k hk => by rw [mu_r hk]; exact ho2 k hk))⟩)

abbrev rX8_knows : Room := { frames := 1, cells := 0, slots := 0, locals := 23 }
theorem yd_X8_knows : ydV yX8_knows RX8 2 := ⟨rfl, by decide +kernel, by decide +kernel, by decide +kernel⟩
set_option maxHeartbeats 4000000 in
set_option maxRecDepth 100000 in
theorem c_X8_knows (l : Launch) (L : Lay) (σ : Me) {X : SS} {d : Nat} (hS : MS (σ 1) X) (hX : LX X) (hd : d < 3) (hV : (X.2.2 d).2.2.1.length < 200) (v : Int32) : Mg8 l L yX8_knows (Cond.code yX8_knows cX8_knows 3 none :: qA) rX8_knows [.ref (ad L 0), .int (nI d), .int v] σ (fun r u => r = none ∧ MS (u 1) (setD X d ((X.2.2 d).1, (X.2.2 d).2.1, (X.2.2 d).2.2.1 ++ [v], (X.2.2 d).2.2.2)) ∧ ∀ k, k ≠ 1 → u k = σ k) := by
  refine Mr8_ofW (by decide) (Nat.le_of_ble_eq_true rfl) ?_
  intro p e s m args below meth c ls post hp hI S hr hlk hK h hl
  have hx := S.1
  have hb := S.2.1
  have hl : lv_has ls 3 [(0, .ref (ad L 0)), (1, .int (nI d)), (2, .int v)] := hl
  obtain ⟨m1, m2, m3, m4, m5, m6, m7⟩ := hS.2.2 d hd
  obtain ⟨la, lb, lc⟩ := hX d hd
  refine lv_aload_n hx hb dX8_knows_0 rfl (lv_at hl 0 rfl) ?_
  refine lv_iload_n hx hb dX8_knows_1 rfl (lv_at hl 1 rfl) ?_
  refine lv_sipush (v := (nI 824)) hx hb dX8_knows_2 (by decide) ?_
  refine lv_aload_n hx hb dX8_knows_5 rfl (lv_at hl 0 rfl) ?_
  refine lv_iload_n hx hb dX8_knows_6 rfl (lv_at hl 1 rfl) ?_
  refine lv_iconst (v := (nI 2)) hx hb dX8_knows_7 (by decide) ?_
  refine q_V18 S hI hK h [.int (nI d), .int (nI 2)] (c_X8_part l L σ (d := d) (q := 2) (by omega)) q_657 q_659 qs_13 q_10 q_660 yd_X8_part rfl ⟨⟨rfl, rfl⟩, ⟨(Nat.le_of_ble_eq_true rfl), (Nat.le_of_ble_eq_true rfl)⟩, Nat.le_refl _, Nat.le_refl _⟩ rfl (Nat.le_of_ble_eq_true rfl) hl.1 dX8_knows_8 (fun H locs h => ?_)
  refine cv_i (show (σ 1 (2 + 1024 * d + 2) : Int32) = nI ((X.2.2 d).2.2.1.length) from m3) ?_
  refine a_iadd hx hb dX8_knows_11 ?_
  refine lv_iload_n hx hb dX8_knows_12 rfl (lv_at hl 2 rfl) ?_
  refine q_V08 S hI hK h [.int (nI d), .int (nI (824 + ((X.2.2 d).2.2.1.length))), .int v] (c_X8_setPart l L σ (d := d) (q := 824 + ((X.2.2 d).2.2.1.length)) (by omega) v) q_713 q_715 qs_26 q_10 q_716 yd_X8_setPart rfl ⟨⟨rfl, rfl⟩, ⟨(Nat.le_of_ble_eq_true rfl), (Nat.le_of_ble_eq_true rfl)⟩, Nat.le_refl _, Nat.le_refl _⟩ rfl (Nat.le_of_ble_eq_true rfl) hl.1 dX8_knows_13 (fun H locs h => ?_)
  refine lv_aload_n hx hb dX8_knows_16 rfl (lv_at hl 0 rfl) ?_
  refine lv_iload_n hx hb dX8_knows_17 rfl (lv_at hl 1 rfl) ?_
  refine lv_iconst (v := (nI 2)) hx hb dX8_knows_18 (by decide) ?_
  refine lv_aload_n hx hb dX8_knows_19 rfl (lv_at hl 0 rfl) ?_
  refine lv_iload_n hx hb dX8_knows_20 rfl (lv_at hl 1 rfl) ?_
  refine lv_iconst (v := (nI 2)) hx hb dX8_knows_21 (by decide) ?_
  refine q_V18 S hI hK h [.int (nI d), .int (nI 2)] (c_X8_part l L (mu σ 1 (2 + 1024 * d + (824 + ((X.2.2 d).2.2.1.length))) v) (d := d) (q := 2) (by omega)) q_657 q_659 qs_13 q_10 q_660 yd_X8_part rfl ⟨⟨rfl, rfl⟩, ⟨(Nat.le_of_ble_eq_true rfl), (Nat.le_of_ble_eq_true rfl)⟩, Nat.le_refl _, Nat.le_refl _⟩ rfl (Nat.le_of_ble_eq_true rfl) hl.1 dX8_knows_22 (fun H locs h => ?_)
  refine cv_i (show ((mu σ 1 (2 + 1024 * d + (824 + ((X.2.2 d).2.2.1.length))) v) 1 (2 + 1024 * d + 2) : Int32) = nI ((X.2.2 d).2.2.1.length) from (by rw [mu_i (by omega)]; exact m3)) ?_
  refine lv_iconst (v := (nI 1)) hx hb dX8_knows_25 (by decide) ?_
  refine a_iadd hx hb dX8_knows_26 ?_
  refine q_V08 S hI hK h [.int (nI d), .int (nI 2), .int (nI ((X.2.2 d).2.2.1.length + 1))] (c_X8_setPart l L (mu σ 1 (2 + 1024 * d + (824 + ((X.2.2 d).2.2.1.length))) v) (d := d) (q := 2) (by omega) (nI ((X.2.2 d).2.2.1.length + 1))) q_713 q_715 qs_26 q_10 q_716 yd_X8_setPart rfl ⟨⟨rfl, rfl⟩, ⟨(Nat.le_of_ble_eq_true rfl), (Nat.le_of_ble_eq_true rfl)⟩, Nat.le_refl _, Nat.le_refl _⟩ rfl (Nat.le_of_ble_eq_true rfl) hl.1 dX8_knows_27 (fun H locs h => ?_)
  exact e_v8 S hK h hr hlk dX8_knows_30 (hp _ _ ⟨rfl, MS_ofL hS hX (fun i hi => by rw [mu_i (by omega), mu_i (by omega)]) ⟨by rw [mu_i (by omega), mu_i (by omega)]; exact m1, by rw [mu_i (by omega), mu_i (by omega)]; exact m2, by rw [mu_s, List.length_append, List.length_singleton], by rw [mu_i (by omega), mu_i (by omega)]; exact m4, fun i hi => by (have q9 : i < (X.2.2 d).1.length := hi); (unfold hpS); rw [mu_i (by omega), mu_i (by omega), mu_i (by omega), mu_i (by omega), mu_i (by omega), mu_i (by omega), mu_i (by omega), mu_i (by omega)]; exact m5 i hi, fun i hi => by (have q9 : i < (X.2.2 d).2.1.length := hi); rw [mu_i (by omega), mu_i (by omega)]; exact m6 i hi, fun i hi => by (have q9 : i < ((X.2.2 d).2.2.1 ++ [v]).length := hi); (rw [List.length_append, List.length_singleton] at q9); (rw [mu_i (by omega)]); by_cases q8 : i = (X.2.2 d).2.2.1.length; (rw [q8, mu_s, getD_snoc_l]); (rw [mu_i (by omega), getD_snoc (by omega)]; exact m7 i (by omega))⟩, fun k hk => by rw [mu_r hk, mu_r hk]⟩)

abbrev rX8_comes : Room := { frames := 5, cells := 0, slots := 0, locals := 109 }
theorem yd_X8_comes : ydV yX8_comes RX8 2 := ⟨rfl, by decide +kernel, by decide +kernel, by decide +kernel⟩
set_option maxHeartbeats 4000000 in
set_option maxRecDepth 100000 in
theorem c_X8_comes (l : Launch) (L : Lay) (σ : Me) {X : SS} {d : Nat} (hS : MS (σ 1) X) (hX : XI X) (hd : d < 3) (hG : ∀ x ∈ (X.2.2 d).1 ++ (X.2.2 d).2.1.map hunit, GH x) (hV : (X.2.2 d).2.2.1.length < 200) (v : Int32) : Mg8 l L yX8_comes (Cond.code yX8_comes cX8_comes 3 none :: qA) rX8_comes [.ref (ad L 0), .int (nI d), .int v] σ (fun r u => r = none ∧ MS (u 1) (setD X d (rcvM X.1 X.2.1 (X.2.2 d) v)) ∧ Oq σ u) := by
  refine Mr8_ofW (by decide) (Nat.le_of_ble_eq_true rfl) ?_
  intro p e s m args below meth c ls post hp hI S hr hlk hK h hl
  have hx := S.1
  have hb := S.2.1
  have hl : lv_has ls 3 [(0, .ref (ad L 0)), (1, .int (nI d)), (2, .int v)] := hl
  obtain ⟨n1, n2, n3, n4, n5, n6, n7⟩ := hS.2.2 d hd
  obtain ⟨la, lb, lc, ld⟩ := hX.1 d hd
  have hs20 := hX.2
  refine lv_aload_n hx hb dX8_comes_0 rfl (lv_at hl 0 rfl) ?_
  refine lv_iload_n hx hb dX8_comes_1 rfl (lv_at hl 1 rfl) ?_
  refine lv_iconst (v := (nI 1)) hx hb dX8_comes_2 (by decide) ?_
  refine q_V18 S hI hK h [.int (nI d), .int (nI 1)] (c_X8_part l L σ (d := d) (q := 1) (by omega)) q_657 q_659 qs_13 q_10 q_660 yd_X8_part rfl ⟨⟨rfl, rfl⟩, ⟨(Nat.le_of_ble_eq_true rfl), (Nat.le_of_ble_eq_true rfl)⟩, Nat.le_refl _, Nat.le_refl _⟩ rfl (Nat.le_of_ble_eq_true rfl) hl.1 dX8_comes_3 (fun H locs h => ?_)
  refine cv_i (show (σ 1 (2 + 1024 * d + 1) : Int32) = nI ((X.2.2 d).2.1.length) from n2) ?_
  refine lv_aload_n hx hb dX8_comes_6 rfl (lv_at hl 0 rfl) ?_
  refine g8 (v := (.ref (ad L 1))) S hK h 0 (by decide) rfl rfl q_596 dX8_comes_7 ?_
  refine lv_iconst (v := (nI 1)) hx hb dX8_comes_10 (by decide) ?_
  refine g8_el (n := 3074) S hK h (by decide) rfl (by omega) dX8_comes_11 ?_
  refine cv_i (show (σ 1 1 : Int32) = X.2.1 from hS.2.1) ?_
  have CT_20 : ∀ (E : Dg) (σ1 : Me) (H : Heap) (locs : List Loc) (ls : Array Slot), (MS (σ1 1) (setD X d E)) → (E.2.1.length < 20) → (E.2.2.1.length < 200) → (E.1.length ≤ 200) → (Oq σ σ1) → (rcvM X.1 X.2.1 (X.2.2 d) v = (E.1, E.2.1 ++ [v], E.2.2.1 ++ [v], E.2.2.2)) → Hd8 L s.heap H σ1 locs → lv_has ls 3 [(0, .ref (ad L 0)), (1, .int (nI d)), (2, .int v)] → W p l e rX8_comes s m args below meth c H locs 0 0 (MQ below (Qg post (bs8 L) (Aw8 L)) args s 0 0 (Aw8 L)) (F0 m 20 ls []) := by
    intro E σ1 H locs ls hE hbE hVE hAE hO1 hr9 h hl
    obtain ⟨m1, m2, m3, m4, m5, m6, m7⟩ := MS_D hE hd
    refine lv_aload_n hx hb dX8_comes_20 rfl (lv_at hl 0 rfl) ?_
    refine lv_iload_n hx hb dX8_comes_21 rfl (lv_at hl 1 rfl) ?_
    refine lv_sipush (v := (nI 804)) hx hb dX8_comes_22 (by decide) ?_
    refine lv_aload_n hx hb dX8_comes_25 rfl (lv_at hl 0 rfl) ?_
    refine lv_iload_n hx hb dX8_comes_26 rfl (lv_at hl 1 rfl) ?_
    refine lv_iconst (v := (nI 1)) hx hb dX8_comes_27 (by decide) ?_
    refine q_V18 S hI hK h [.int (nI d), .int (nI 1)] (c_X8_part l L σ1 (d := d) (q := 1) (by omega)) q_657 q_659 qs_13 q_10 q_660 yd_X8_part rfl ⟨⟨rfl, rfl⟩, ⟨(Nat.le_of_ble_eq_true rfl), (Nat.le_of_ble_eq_true rfl)⟩, Nat.le_refl _, Nat.le_refl _⟩ rfl (Nat.le_of_ble_eq_true rfl) hl.1 dX8_comes_28 (fun H locs h => ?_)
    refine cv_i (show (σ1 1 (2 + 1024 * d + 1) : Int32) = nI E.2.1.length from m2) ?_
    refine a_iadd hx hb dX8_comes_31 ?_
    refine lv_iload_n hx hb dX8_comes_32 rfl (lv_at hl 2 rfl) ?_
    refine q_V08 S hI hK h [.int (nI d), .int (nI (804 + E.2.1.length)), .int v] (c_X8_setPart l L σ1 (d := d) (q := 804 + E.2.1.length) (by omega) v) q_713 q_715 qs_26 q_10 q_716 yd_X8_setPart rfl ⟨⟨rfl, rfl⟩, ⟨(Nat.le_of_ble_eq_true rfl), (Nat.le_of_ble_eq_true rfl)⟩, Nat.le_refl _, Nat.le_refl _⟩ rfl (Nat.le_of_ble_eq_true rfl) hl.1 dX8_comes_33 (fun H locs h => ?_)
    refine lv_aload_n hx hb dX8_comes_36 rfl (lv_at hl 0 rfl) ?_
    refine lv_iload_n hx hb dX8_comes_37 rfl (lv_at hl 1 rfl) ?_
    refine lv_iconst (v := (nI 1)) hx hb dX8_comes_38 (by decide) ?_
    refine lv_aload_n hx hb dX8_comes_39 rfl (lv_at hl 0 rfl) ?_
    refine lv_iload_n hx hb dX8_comes_40 rfl (lv_at hl 1 rfl) ?_
    refine lv_iconst (v := (nI 1)) hx hb dX8_comes_41 (by decide) ?_
    refine q_V18 S hI hK h [.int (nI d), .int (nI 1)] (c_X8_part l L (mu σ1 1 (2 + 1024 * d + (804 + E.2.1.length)) v) (d := d) (q := 1) (by omega)) q_657 q_659 qs_13 q_10 q_660 yd_X8_part rfl ⟨⟨rfl, rfl⟩, ⟨(Nat.le_of_ble_eq_true rfl), (Nat.le_of_ble_eq_true rfl)⟩, Nat.le_refl _, Nat.le_refl _⟩ rfl (Nat.le_of_ble_eq_true rfl) hl.1 dX8_comes_42 (fun H locs h => ?_)
    refine cv_i (show ((mu σ1 1 (2 + 1024 * d + (804 + E.2.1.length)) v) 1 (2 + 1024 * d + 1) : Int32) = nI E.2.1.length from (by rw [mu_i (by omega)]; exact m2)) ?_
    refine lv_iconst (v := (nI 1)) hx hb dX8_comes_45 (by decide) ?_
    refine a_iadd hx hb dX8_comes_46 ?_
    refine q_V08 S hI hK h [.int (nI d), .int (nI 1), .int (nI (E.2.1.length + 1))] (c_X8_setPart l L (mu σ1 1 (2 + 1024 * d + (804 + E.2.1.length)) v) (d := d) (q := 1) (by omega) (nI (E.2.1.length + 1))) q_713 q_715 qs_26 q_10 q_716 yd_X8_setPart rfl ⟨⟨rfl, rfl⟩, ⟨(Nat.le_of_ble_eq_true rfl), (Nat.le_of_ble_eq_true rfl)⟩, Nat.le_refl _, Nat.le_refl _⟩ rfl (Nat.le_of_ble_eq_true rfl) hl.1 dX8_comes_47 (fun H locs h => ?_)
    obtain ⟨σ3, e_σ3⟩ : ∃ z : Me, z = mu (mu σ1 1 (2 + 1024 * d + (804 + E.2.1.length)) v) 1 (2 + 1024 * d + 1) (nI (E.2.1.length + 1)) := ⟨_, rfl⟩
    have h := h.to e_σ3.symm
    have hS3 : MS (σ3 1) (setD X d (E.1, E.2.1 ++ [v], E.2.2.1, E.2.2.2)) := by rw [e_σ3]; exact MS_of2 hE hX.L (fun i hi => by rw [mu_i (by omega), mu_i (by omega)]) ⟨by rw [mu_i (by omega), mu_i (by omega)]; exact m1, by rw [mu_s, List.length_append, List.length_singleton], by rw [mu_i (by omega), mu_i (by omega)]; exact m3, by rw [mu_i (by omega), mu_i (by omega)]; exact m4, fun i hi => by (have q9 : i < E.1.length := hi); (unfold hpS); rw [mu_i (by omega), mu_i (by omega), mu_i (by omega), mu_i (by omega), mu_i (by omega), mu_i (by omega), mu_i (by omega), mu_i (by omega)]; exact m5 i hi, fun i hi => by (have q9 : i < (E.2.1 ++ [v]).length := hi); (rw [List.length_append, List.length_singleton] at q9); (rw [mu_i (by omega)]); by_cases q8 : i = E.2.1.length; (rw [q8, mu_s, getD_snoc_l]); (rw [mu_i (by omega), getD_snoc (by omega)]; exact m6 i (by omega)), fun i hi => by (have q9 : i < E.2.2.1.length := hi); rw [mu_i (by omega), mu_i (by omega)]; exact m7 i hi⟩
    refine lv_aload_n hx hb dX8_comes_50 rfl (lv_at hl 0 rfl) ?_
    refine lv_iload_n hx hb dX8_comes_51 rfl (lv_at hl 1 rfl) ?_
    refine lv_iload_n hx hb dX8_comes_52 rfl (lv_at hl 2 rfl) ?_
    refine q_VR8 S hI hK h [.int (nI d), .int v] (c_X8_knows l L σ3 hS3 (LX_setD hX.L hAE (by rw [List.length_append, List.length_singleton]; exact hbE) (Nat.le_of_lt hVE)) hd (by rw [setD_i]; exact hVE) v) q_717 q_719 qs_27 q_10 q_720 yd_X8_knows rfl ⟨⟨rfl, rfl⟩, ⟨(Nat.le_of_ble_eq_true rfl), (Nat.le_of_ble_eq_true rfl)⟩, Nat.le_refl _, Nat.le_refl _⟩ rfl (Nat.le_of_ble_eq_true rfl) hl.1 dX8_comes_53 (fun σ4 H locs hp9 h => ?_)
    obtain ⟨hS4, ho4⟩ := hp9
    rw [setD_i, setD_setD] at hS4
    exact e_v8 S hK h hr hlk dX8_comes_56 (hp _ _ ⟨rfl, by rw [hr9]; exact hS4, hO1.tr ((Oq.of1 (fun k hk => by rw [e_σ3, mu_r hk, mu_r hk])).tr (Oq.of1 ho4))⟩)
  refine lv_icmp_lt (tgt := 20) hx hb dX8_comes_12 (by decide) (fun c_12 => ?_) (fun c_12 => ?_)
  · have hb9 : (X.2.2 d).2.1.length < 20 := (nI_ltI (by omega) (by omega)).mp (Int32.lt_of_lt_of_le c_12 hs20)
    exact CT_20 (X.2.2 d) σ _ _ _ (by first | (rw [setD_id]; exact hS) | exact hS9) (by first | exact hb9 | exact (by show 0 < 20; omega)) hV (by first | exact trL_len hX hd | omega) (by first | exact Oq.rf | exact hO9) (by unfold rcvM; first | (rw [if_neg (Int32.not_le.mpr c_12)]) | (rw [if_pos (Int32.not_lt.mp c_12)])) h (lv_sub hl [0, 1, 2] rfl)
  · refine lv_aload_n hx hb dX8_comes_15 rfl (lv_at hl 0 rfl) ?_
    refine lv_iload_n hx hb dX8_comes_16 rfl (lv_at hl 1 rfl) ?_
    refine q_VR8 S hI hK h [.int (nI d)] (c_X8_packs l L σ hS hX hd hG) q_673 q_675 qs_16 q_10 q_676 yd_X8_packs rfl ⟨⟨rfl, rfl⟩, ⟨(Nat.le_of_ble_eq_true rfl), (Nat.le_of_ble_eq_true rfl)⟩, Nat.le_refl _, Nat.le_refl _⟩ rfl (Nat.le_of_ble_eq_true rfl) hl.1 dX8_comes_17 (fun σ2 H locs hp9 h => ?_)
    obtain ⟨hS9, hL9, hO9⟩ := hp9
    exact CT_20 (pkD X.1 (X.2.2 d)) σ2 _ _ _ (by first | (rw [setD_id]; exact hS) | exact hS9) (by first | exact hb9 | exact (by show 0 < 20; omega)) hV (by first | exact trL_len hX hd | omega) (by first | exact Oq.rf | exact hO9) (by unfold rcvM; first | (rw [if_neg (Int32.not_le.mpr c_12)]) | (rw [if_pos (Int32.not_lt.mp c_12)])) h (lv_sub hl [0, 1, 2] rfl)

abbrev rX8_moves : Room := { frames := 0, cells := 0, slots := 0, locals := 0 }
theorem yd_X8_moves : ydV yX8_moves RX8 4 := ⟨rfl, by decide +kernel, by decide +kernel, by decide +kernel⟩
set_option maxHeartbeats 4000000 in
set_option maxRecDepth 100000 in
theorem c_X8_moves (l : Launch) (L : Lay) (σ : Me) {a9 f9 b9 t9 n1 n2 : Nat} (ha : 0 < a9 ∧ a9 < 10) (hna : ln8 a9 = n1) (hb9 : 0 < b9 ∧ b9 < 10) (hnb : ln8 b9 = n2) (hab : a9 ≠ b9) (hf : f9 + 3074 ≤ n1) (ht : t9 + 3074 ≤ n2) : Mf8 l L yX8_moves (Cond.code yX8_moves cX8_moves 5 none :: qA) rX8_moves [.ref (ad L a9), .int (nI f9), .ref (ad L b9), .int (nI t9)] σ none (cp8 σ a9 f9 b9 t9 3074) := by
  refine Mf8.ofW (by decide) (Nat.le_of_ble_eq_true rfl) ?_
  intro p e s m args below meth c ls post hp hI S hr hlk hK h hl
  have hx := S.1
  have hb := S.2.1
  have hl : lv_has ls 5 [(0, .ref (ad L a9)), (1, .int (nI f9)), (2, .ref (ad L b9)), (3, .int (nI t9))] := hl
  refine lv_iconst (v := (nI 0)) hx hb dX8_moves_0 (by decide) ?_
  refine lv_istore (lv' := [(4, .int (nI 0)), (0, .ref (ad L a9)), (1, .int (nI f9)), (2, .ref (ad L b9)), (3, .int (nI t9))]) hx hb dX8_moves_1 hl (by decide) rfl (fun ls hl => ?_)
  have LP_3 : ∀ (n_3 : Nat) (j : Nat) (σ1 : Me), (j ≤ 3074) → (σ1 = cp8 σ a9 f9 b9 t9 j) → 3074 - j < n_3 → ∀ (H : Heap) (locs : List Loc) (ls : Array Slot), Hd8 L s.heap H σ1 locs → lv_has ls 5 [(4, .int (nI j)), (3, .int (nI t9)), (2, .ref (ad L b9)), (1, .int (nI f9)), (0, .ref (ad L a9))] → W p l e rX8_moves s m args below meth c H locs 0 0 (MQ below (Qg post (bs8 L) (Aw8 L)) args s 0 0 (Aw8 L)) (F0 m 3 ls []) := by
    intro n_3
    induction n_3 with
    | zero => intro j σ1; intros; omega
    | succ n_3 ih_3 =>
      intro j σ1 hj hσ hm_3 H locs ls h hl
      refine lv_iload hx hb dX8_moves_3 (lv_at hl 0 rfl) ?_
      refine lv_sipush (v := (nI 3074)) hx hb dX8_moves_5 (by decide) ?_
      refine b_icmp_ge (tgt := 29) hx hb dX8_moves_8 (by decide) (by omega) (by omega) (fun c_8 => ?_) (fun c_8 => ?_)
      · have e4 : j = 3074 := by omega
        exact e_v8 S hK h hr hlk dX8_moves_29 (fin_p8 hp rfl (by rw [hσ, e4]))
      · refine lv_aload_n hx hb dX8_moves_11 rfl (lv_at hl 2 rfl) ?_
        refine lv_iload_n hx hb dX8_moves_12 rfl (lv_at hl 1 rfl) ?_
        refine lv_iload hx hb dX8_moves_13 (lv_at hl 0 rfl) ?_
        refine a_iadd hx hb dX8_moves_15 ?_
        refine lv_aload_n hx hb dX8_moves_16 rfl (lv_at hl 4 rfl) ?_
        refine lv_iload_n hx hb dX8_moves_17 rfl (lv_at hl 3 rfl) ?_
        refine lv_iload hx hb dX8_moves_18 (lv_at hl 0 rfl) ?_
        refine a_iadd hx hb dX8_moves_20 ?_
        refine g8_el (n := n1) S hK h ha hna (by omega) dX8_moves_21 ?_
        refine p8_el (n := n2) S hI hK h hb9 hnb (by omega) dX8_moves_22 (fun H locs h => ?_)
        refine lv_iinc (v := (nI (j + 1))) (lv' := [(4, .int (nI (j + 1))), (3, .int (nI t9)), (2, .ref (ad L b9)), (1, .int (nI f9)), (0, .ref (ad L a9))]) hx hb dX8_moves_23 hl (k := 0) rfl (iinc_1 _) (by decide) rfl (fun ls hl => ?_)
        refine lv_goto (tgt := 3) hx hb dX8_moves_26 (by decide) ?_
        exact ih_3 (j + 1) (mu σ1 b9 (t9 + j) (σ1 a9 (f9 + j))) (by omega) (by rw [hσ]; exact cp8_1 hab) (by omega) _ _ _ h (lv_sub hl [0, 1, 2, 3, 4] rfl)
  exact LP_3 _ 0 σ (by omega) cp8_0.symm (Nat.lt_succ_self _) _ _ _ h (lv_sub hl [0, 4, 3, 2, 1] rfl)

abbrev rX8_findPacked : Room := { frames := 3, cells := 0, slots := 0, locals := 67 }
theorem yd_X8_findPacked : ydV yX8_findPacked RX8 1 := ⟨rfl, by decide +kernel, by decide +kernel, by decide +kernel⟩
set_option maxHeartbeats 4000000 in
set_option maxRecDepth 100000 in
theorem c_X8_findPacked (l : Launch) (L : Lay) (σ : Me) {X : SS} {d : Nat} (hS : MS (σ 1) X) (hX : XI X) (hd : d < 3) (hG : ∀ x ∈ (X.2.2 d).1 ++ (X.2.2 d).2.1.map hunit, GH x) : Mg8 l L yX8_findPacked (Cond.code yX8_findPacked cX8_findPacked 2 none :: qA) rX8_findPacked [.ref (ad L 0), .int (nI d)] σ (fun r u => r = none ∧ HL u (trL X d) ∧ Ot σ u) := by
  refine Mr8_ofW (by decide) (Nat.le_of_ble_eq_true rfl) ?_
  intro p e s m args below meth c ls post hp hI S hr hlk hK h hl
  have hx := S.1
  have hb := S.2.1
  have hl : lv_has ls 2 [(0, .ref (ad L 0)), (1, .int (nI d))] := hl
  have hD := hS.2.2 d hd
  obtain ⟨la, lb, lc, ld⟩ := hX.1 d hd
  refine lv_aload_n hx hb dX8_findPacked_0 rfl (lv_at hl 0 rfl) ?_
  refine lv_iconst (v := (nI 0)) hx hb dX8_findPacked_1 (by decide) ?_
  refine p8 2 9 S hI hK h (by decide) rfl (fun _ => rfl) q_605 dX8_findPacked_2 (fun H locs h => ?_)
  refine lv_aload_n hx hb dX8_findPacked_5 rfl (lv_at hl 0 rfl) ?_
  refine lv_iload_n hx hb dX8_findPacked_6 rfl (lv_at hl 1 rfl) ?_
  refine q_VR8 S hI hK h [.int (nI d)] (c_X8_takeHeaps l L (mu σ 0 2 (nI 0)) hd (by rw [mu_r (by omega)]; exact hD) HL.nil (by omega) (by simp only [List.length_nil]; omega)) q_681 q_683 qs_18 q_10 q_684 yd_X8_takeHeaps rfl ⟨⟨rfl, rfl⟩, ⟨(Nat.le_of_ble_eq_true rfl), (Nat.le_of_ble_eq_true rfl)⟩, Nat.le_refl _, Nat.le_refl _⟩ rfl (Nat.le_of_ble_eq_true rfl) hl.1 dX8_findPacked_7 (fun σ1 H locs hp9 h => ?_)
  obtain ⟨hL1, hO1⟩ := hp9
  rw [List.nil_append] at hL1
  have r1 : σ1 1 = σ 1 := (Ot.many.tr hO1).r1
  refine lv_aload_n hx hb dX8_findPacked_10 rfl (lv_at hl 0 rfl) ?_
  refine lv_iload_n hx hb dX8_findPacked_11 rfl (lv_at hl 1 rfl) ?_
  refine q_VR8 S hI hK h [.int (nI d)] (c_X8_takeBuffer l L σ1 hd (by rw [r1]; exact hD) hL1 (by omega) (by omega)) q_693 q_695 qs_21 q_10 q_696 yd_X8_takeBuffer rfl ⟨⟨rfl, rfl⟩, ⟨(Nat.le_of_ble_eq_true rfl), (Nat.le_of_ble_eq_true rfl)⟩, Nat.le_refl _, Nat.le_refl _⟩ rfl (Nat.le_of_ble_eq_true rfl) hl.1 dX8_findPacked_12 (fun σ2 H locs hp9 h => ?_)
  obtain ⟨hL2, hO2⟩ := hp9
  refine lv_aload_n hx hb dX8_findPacked_15 rfl (lv_at hl 0 rfl) ?_
  refine q_VR8 S hI hK h [] (c_X8_putInOrder l L σ2 hL2 hG (by rw [List.length_append, List.length_map]; omega)) q_697 q_699 qs_22 q_10 q_700 yd_X8_putInOrder rfl ⟨⟨rfl, rfl⟩, ⟨(Nat.le_of_ble_eq_true rfl), (Nat.le_of_ble_eq_true rfl)⟩, Nat.le_refl _, Nat.le_refl _⟩ rfl (Nat.le_of_ble_eq_true rfl) hl.1 dX8_findPacked_16 (fun σ3 H locs hp9 h => ?_)
  obtain ⟨hL3, hO3⟩ := hp9
  have hO4 := ((Ot.many (v := nI 0) (σ := σ)).tr hO1).tr (hO2.tr hO3)
  refine lv_aload_n hx hb dX8_findPacked_19 rfl (lv_at hl 0 rfl) ?_
  refine lv_aload_n hx hb dX8_findPacked_20 rfl (lv_at hl 0 rfl) ?_
  refine g8 (v := (.ref (ad L 1))) S hK h 0 (by decide) rfl rfl q_596 dX8_findPacked_21 ?_
  refine lv_iconst (v := (nI 0)) hx hb dX8_findPacked_24 (by decide) ?_
  refine g8_el (n := 3074) S hK h (by decide) rfl (by omega) dX8_findPacked_25 ?_
  refine cv_i (show (σ3 1 0 : Int32) = X.1 from (by rw [hO4.r1]; exact hS.1)) ?_
  refine q_VR8 S hI hK h [.int X.1] (c_X8_putTogether l L σ3 hL3 (by rw [order, oSort_len, List.length_append, List.length_map]; omega) X.1) q_705 q_707 qs_24 q_10 q_708 yd_X8_putTogether rfl ⟨⟨rfl, rfl⟩, ⟨(Nat.le_of_ble_eq_true rfl), (Nat.le_of_ble_eq_true rfl)⟩, Nat.le_refl _, Nat.le_refl _⟩ rfl (Nat.le_of_ble_eq_true rfl) hl.1 dX8_findPacked_26 (fun σ4 H locs hp9 h => ?_)
  obtain ⟨hL5, hO5⟩ := hp9
  exact e_v8 S hK h hr hlk dX8_findPacked_29 (hp _ _ ⟨rfl, hL5, hO4.tr hO5⟩)

abbrev rX8_giveHeaps : Room := { frames := 1, cells := 0, slots := 0, locals := 23 }
theorem yd_X8_giveHeaps : ydV yX8_giveHeaps RX8 1 := ⟨rfl, by decide +kernel, by decide +kernel, by decide +kernel⟩
set_option maxHeartbeats 4000000 in
set_option maxRecDepth 100000 in
theorem c_X8_giveHeaps (l : Launch) (L : Lay) (σ : Me) {X : SS} {d : Nat} (hS : MS (σ 1) X) (hX : XI X) (hd : d < 3) {A : List Hp} (hA : HL σ A) (l1 : A.length ≤ 200) : Mg8 l L yX8_giveHeaps (Cond.code yX8_giveHeaps cX8_giveHeaps 3 none :: qA) rX8_giveHeaps [.ref (ad L 0), .int (nI d)] σ (fun r u => r = none ∧ MS (u 1) (setD X d (A, (X.2.2 d).2.1, (X.2.2 d).2.2.1, (X.2.2 d).2.2.2 + nI 1)) ∧ ∀ k, k ≠ 1 → u k = σ k) := by
  refine Mr8_ofW (by decide) (Nat.le_of_ble_eq_true rfl) ?_
  intro p e s m args below meth c ls post hp hI S hr hlk hK h hl
  have hx := S.1
  have hb := S.2.1
  have hl : lv_has ls 3 [(0, .ref (ad L 0)), (1, .int (nI d))] := hl
  have hD := hS.2.2 d hd
  obtain ⟨la, lb, lc, ld⟩ := hX.1 d hd
  obtain ⟨m1, m2, m3, m4, m5, m6, m7⟩ := id hD
  refine lv_aload_n hx hb dX8_giveHeaps_0 rfl (lv_at hl 0 rfl) ?_
  refine lv_iload_n hx hb dX8_giveHeaps_1 rfl (lv_at hl 1 rfl) ?_
  refine lv_iconst (v := (nI 0)) hx hb dX8_giveHeaps_2 (by decide) ?_
  refine lv_aload_n hx hb dX8_giveHeaps_3 rfl (lv_at hl 0 rfl) ?_
  refine g8 (v := (.int (σ 0 2))) S hK h 9 (by decide) rfl rfl q_605 dX8_giveHeaps_4 ?_
  refine cv_i (show (σ 0 2 : Int32) = nI A.length from hA.1) ?_
  refine q_V08 S hI hK h [.int (nI d), .int (nI 0), .int (nI A.length)] (c_X8_setPart l L σ (d := d) (q := 0) (by omega) (nI A.length)) q_713 q_715 qs_26 q_10 q_716 yd_X8_setPart rfl ⟨⟨rfl, rfl⟩, ⟨(Nat.le_of_ble_eq_true rfl), (Nat.le_of_ble_eq_true rfl)⟩, Nat.le_refl _, Nat.le_refl _⟩ rfl (Nat.le_of_ble_eq_true rfl) hl.1 dX8_giveHeaps_7 (fun H locs h => ?_)
  refine lv_iconst (v := (nI 0)) hx hb dX8_giveHeaps_10 (by decide) ?_
  refine lv_istore_n (lv' := [(2, .int (nI 0)), (0, .ref (ad L 0)), (1, .int (nI d))]) hx hb dX8_giveHeaps_11 rfl hl (by decide) rfl (fun ls hl => ?_)
  have LP_12 : ∀ (n_12 : Nat) (j : Nat) (σ1 : Me), (j ≤ A.length) → (∀ i, i < j → hpS (σ1 1) d i = A.getD i hd0) → (σ1 1 (2 + 1024 * d + 0) = nI A.length) → (∀ i, i < 2 + 1024 * d ∨ 2 + 1024 * d + 804 ≤ i ∨ i = 2 + 1024 * d + 1 ∨ i = 2 + 1024 * d + 2 ∨ i = 2 + 1024 * d + 3 → σ1 1 i = σ 1 i) → (∀ k, k ≠ 1 → σ1 k = σ k) → A.length - j < n_12 → ∀ (H : Heap) (locs : List Loc) (ls : Array Slot), Hd8 L s.heap H σ1 locs → lv_has ls 3 [(2, .int (nI j)), (1, .int (nI d)), (0, .ref (ad L 0))] → W p l e rX8_giveHeaps s m args below meth c H locs 0 0 (MQ below (Qg post (bs8 L) (Aw8 L)) args s 0 0 (Aw8 L)) (F0 m 12 ls []) := by
    intro n_12
    induction n_12 with
    | zero => intro j σ1; intros; omega
    | succ n_12 ih_12 =>
      intro j σ1 hj hw h0 hr8 ho9 hm_12 H locs ls h hl
      refine lv_iload_n hx hb dX8_giveHeaps_12 rfl (lv_at hl 0 rfl) ?_
      refine lv_aload_n hx hb dX8_giveHeaps_13 rfl (lv_at hl 2 rfl) ?_
      refine g8 (v := (.int (σ1 0 2))) S hK h 9 (by decide) rfl rfl q_605 dX8_giveHeaps_14 ?_
      refine cv_i (show (σ1 0 2 : Int32) = nI A.length from (by rw [ho9 0 (by omega)]; exact hA.1)) ?_
      refine b_icmp_ge (tgt := 98) hx hb dX8_giveHeaps_17 (by decide) (by omega) (by omega) (fun c_17 => ?_) (fun c_17 => ?_)
      · have e4 : j = A.length := by omega
        refine lv_aload_n hx hb dX8_giveHeaps_98 rfl (lv_at hl 2 rfl) ?_
        refine lv_iload_n hx hb dX8_giveHeaps_99 rfl (lv_at hl 1 rfl) ?_
        refine lv_iconst (v := (nI 3)) hx hb dX8_giveHeaps_100 (by decide) ?_
        refine lv_aload_n hx hb dX8_giveHeaps_101 rfl (lv_at hl 2 rfl) ?_
        refine lv_iload_n hx hb dX8_giveHeaps_102 rfl (lv_at hl 1 rfl) ?_
        refine lv_iconst (v := (nI 3)) hx hb dX8_giveHeaps_103 (by decide) ?_
        refine q_V18 S hI hK h [.int (nI d), .int (nI 3)] (c_X8_part l L σ1 (d := d) (q := 3) (by omega)) q_657 q_659 qs_13 q_10 q_660 yd_X8_part rfl ⟨⟨rfl, rfl⟩, ⟨(Nat.le_of_ble_eq_true rfl), (Nat.le_of_ble_eq_true rfl)⟩, Nat.le_refl _, Nat.le_refl _⟩ rfl (Nat.le_of_ble_eq_true rfl) hl.1 dX8_giveHeaps_104 (fun H locs h => ?_)
        refine cv_i (show (σ1 1 (2 + 1024 * d + 3) : Int32) = (X.2.2 d).2.2.2 from ((hr8 _ (by omega)).trans m4)) ?_
        refine lv_iconst (v := (nI 1)) hx hb dX8_giveHeaps_107 (by decide) ?_
        refine lv_iadd hx hb dX8_giveHeaps_108 ?_
        refine q_V08 S hI hK h [.int (nI d), .int (nI 3), .int (((X.2.2 d).2.2.2) + (nI 1))] (c_X8_setPart l L σ1 (d := d) (q := 3) (by omega) (((X.2.2 d).2.2.2) + (nI 1))) q_713 q_715 qs_26 q_10 q_716 yd_X8_setPart rfl ⟨⟨rfl, rfl⟩, ⟨(Nat.le_of_ble_eq_true rfl), (Nat.le_of_ble_eq_true rfl)⟩, Nat.le_refl _, Nat.le_refl _⟩ rfl (Nat.le_of_ble_eq_true rfl) hl.1 dX8_giveHeaps_109 (fun H locs h => ?_)
        exact e_v8 S hK h hr hlk dX8_giveHeaps_112 (hp _ _ ⟨rfl, MS_of hS hX (fun i hi => by rw [mu_i (by omega)]; exact hr8 i (by omega)) ⟨by rw [mu_i (by omega)]; exact h0, by rw [mu_i (by omega)]; exact (hr8 _ (by omega)).trans m2, by rw [mu_i (by omega)]; exact (hr8 _ (by omega)).trans m3, mu_s, fun i hi => by (have q8 : i < A.length := hi); (have q9 := hw i (by omega)); (unfold hpS at q9 ⊢); rw [mu_i (by omega), mu_i (by omega), mu_i (by omega), mu_i (by omega)]; exact q9, fun i hi => by rw [mu_i (by omega)]; exact (hr8 _ (by have q9 : i < (X.2.2 d).2.1.length := hi; omega)).trans (m6 i hi), fun i hi => by rw [mu_i (by omega)]; exact (hr8 _ (by omega)).trans (m7 i hi)⟩, fun k hk => by rw [mu_r hk]; exact ho9 k hk⟩)
      · have hw9 : (σ 4 j, σ 5 j, σ 6 j, σ 7 j) = A.getD j hd0 := hA.2 j c_17
        refine lv_aload_n hx hb dX8_giveHeaps_20 rfl (lv_at hl 2 rfl) ?_
        refine lv_iload_n hx hb dX8_giveHeaps_21 rfl (lv_at hl 1 rfl) ?_
        refine lv_iconst (v := (nI 4)) hx hb dX8_giveHeaps_22 (by decide) ?_
        refine lv_iconst (v := (nI 4)) hx hb dX8_giveHeaps_23 (by decide) ?_
        refine lv_iload_n hx hb dX8_giveHeaps_24 rfl (lv_at hl 0 rfl) ?_
        refine a_imul hx hb dX8_giveHeaps_25 ?_
        refine a_iadd hx hb dX8_giveHeaps_26 ?_
        refine lv_iconst (v := (nI 0)) hx hb dX8_giveHeaps_27 (by decide) ?_
        refine a_iadd hx hb dX8_giveHeaps_28 ?_
        refine lv_aload_n hx hb dX8_giveHeaps_29 rfl (lv_at hl 2 rfl) ?_
        refine g8 (v := (.ref (ad L 4))) S hK h 5 (by decide) rfl rfl q_601 dX8_giveHeaps_30 ?_
        refine lv_iload_n hx hb dX8_giveHeaps_33 rfl (lv_at hl 0 rfl) ?_
        refine g8_el (n := 400) S hK h (by decide) rfl (by omega) dX8_giveHeaps_34 ?_
        refine cv_i (show (σ1 4 j : Int32) = σ 4 j from (by first | rfl | (simp only [mu]; rw [ho9 4 (by omega)]; simp) | (rw [ho9 4 (by omega)]))) ?_
        refine q_V08 S hI hK h [.int (nI d), .int (nI (4 + (4 * j) + 0)), .int (σ 4 j)] (c_X8_setPart l L σ1 (d := d) (q := 4 + (4 * j) + 0) (by omega) (σ 4 j)) q_713 q_715 qs_26 q_10 q_716 yd_X8_setPart rfl ⟨⟨rfl, rfl⟩, ⟨(Nat.le_of_ble_eq_true rfl), (Nat.le_of_ble_eq_true rfl)⟩, Nat.le_refl _, Nat.le_refl _⟩ rfl (Nat.le_of_ble_eq_true rfl) hl.1 dX8_giveHeaps_35 (fun H locs h => ?_)
        refine lv_aload_n hx hb dX8_giveHeaps_38 rfl (lv_at hl 2 rfl) ?_
        refine lv_iload_n hx hb dX8_giveHeaps_39 rfl (lv_at hl 1 rfl) ?_
        refine lv_iconst (v := (nI 4)) hx hb dX8_giveHeaps_40 (by decide) ?_
        refine lv_iconst (v := (nI 4)) hx hb dX8_giveHeaps_41 (by decide) ?_
        refine lv_iload_n hx hb dX8_giveHeaps_42 rfl (lv_at hl 0 rfl) ?_
        refine a_imul hx hb dX8_giveHeaps_43 ?_
        refine a_iadd hx hb dX8_giveHeaps_44 ?_
        refine lv_iconst (v := (nI 1)) hx hb dX8_giveHeaps_45 (by decide) ?_
        refine a_iadd hx hb dX8_giveHeaps_46 ?_
        refine lv_aload_n hx hb dX8_giveHeaps_47 rfl (lv_at hl 2 rfl) ?_
        refine g8 (v := (.ref (ad L 5))) S hK h 6 (by decide) rfl rfl q_602 dX8_giveHeaps_48 ?_
        refine lv_iload_n hx hb dX8_giveHeaps_51 rfl (lv_at hl 0 rfl) ?_
        refine g8_el (n := 400) S hK h (by decide) rfl (by omega) dX8_giveHeaps_52 ?_
        refine cv_i (show ((mu σ1 1 (2 + 1024 * d + (4 + (4 * j) + 0)) (σ 4 j)) 5 j : Int32) = σ 5 j from (by first | rfl | (simp only [mu]; rw [ho9 5 (by omega)]; simp) | (rw [ho9 5 (by omega)]))) ?_
        refine q_V08 S hI hK h [.int (nI d), .int (nI (4 + (4 * j) + 1)), .int (σ 5 j)] (c_X8_setPart l L (mu σ1 1 (2 + 1024 * d + (4 + (4 * j) + 0)) (σ 4 j)) (d := d) (q := 4 + (4 * j) + 1) (by omega) (σ 5 j)) q_713 q_715 qs_26 q_10 q_716 yd_X8_setPart rfl ⟨⟨rfl, rfl⟩, ⟨(Nat.le_of_ble_eq_true rfl), (Nat.le_of_ble_eq_true rfl)⟩, Nat.le_refl _, Nat.le_refl _⟩ rfl (Nat.le_of_ble_eq_true rfl) hl.1 dX8_giveHeaps_53 (fun H locs h => ?_)
        refine lv_aload_n hx hb dX8_giveHeaps_56 rfl (lv_at hl 2 rfl) ?_
        refine lv_iload_n hx hb dX8_giveHeaps_57 rfl (lv_at hl 1 rfl) ?_
        refine lv_iconst (v := (nI 4)) hx hb dX8_giveHeaps_58 (by decide) ?_
        refine lv_iconst (v := (nI 4)) hx hb dX8_giveHeaps_59 (by decide) ?_
        refine lv_iload_n hx hb dX8_giveHeaps_60 rfl (lv_at hl 0 rfl) ?_
        refine a_imul hx hb dX8_giveHeaps_61 ?_
        refine a_iadd hx hb dX8_giveHeaps_62 ?_
        refine lv_iconst (v := (nI 2)) hx hb dX8_giveHeaps_63 (by decide) ?_
        refine a_iadd hx hb dX8_giveHeaps_64 ?_
        refine lv_aload_n hx hb dX8_giveHeaps_65 rfl (lv_at hl 2 rfl) ?_
        refine g8 (v := (.ref (ad L 6))) S hK h 7 (by decide) rfl rfl q_603 dX8_giveHeaps_66 ?_
        refine lv_iload_n hx hb dX8_giveHeaps_69 rfl (lv_at hl 0 rfl) ?_
        refine g8_el (n := 400) S hK h (by decide) rfl (by omega) dX8_giveHeaps_70 ?_
        refine cv_i (show ((mu (mu σ1 1 (2 + 1024 * d + (4 + (4 * j) + 0)) (σ 4 j)) 1 (2 + 1024 * d + (4 + (4 * j) + 1)) (σ 5 j)) 6 j : Int32) = σ 6 j from (by first | rfl | (simp only [mu]; rw [ho9 6 (by omega)]; simp) | (rw [ho9 6 (by omega)]))) ?_
        refine q_V08 S hI hK h [.int (nI d), .int (nI (4 + (4 * j) + 2)), .int (σ 6 j)] (c_X8_setPart l L (mu (mu σ1 1 (2 + 1024 * d + (4 + (4 * j) + 0)) (σ 4 j)) 1 (2 + 1024 * d + (4 + (4 * j) + 1)) (σ 5 j)) (d := d) (q := 4 + (4 * j) + 2) (by omega) (σ 6 j)) q_713 q_715 qs_26 q_10 q_716 yd_X8_setPart rfl ⟨⟨rfl, rfl⟩, ⟨(Nat.le_of_ble_eq_true rfl), (Nat.le_of_ble_eq_true rfl)⟩, Nat.le_refl _, Nat.le_refl _⟩ rfl (Nat.le_of_ble_eq_true rfl) hl.1 dX8_giveHeaps_71 (fun H locs h => ?_)
        refine lv_aload_n hx hb dX8_giveHeaps_74 rfl (lv_at hl 2 rfl) ?_
        refine lv_iload_n hx hb dX8_giveHeaps_75 rfl (lv_at hl 1 rfl) ?_
        refine lv_iconst (v := (nI 4)) hx hb dX8_giveHeaps_76 (by decide) ?_
        refine lv_iconst (v := (nI 4)) hx hb dX8_giveHeaps_77 (by decide) ?_
        refine lv_iload_n hx hb dX8_giveHeaps_78 rfl (lv_at hl 0 rfl) ?_
        refine a_imul hx hb dX8_giveHeaps_79 ?_
        refine a_iadd hx hb dX8_giveHeaps_80 ?_
        refine lv_iconst (v := (nI 3)) hx hb dX8_giveHeaps_81 (by decide) ?_
        refine a_iadd hx hb dX8_giveHeaps_82 ?_
        refine lv_aload_n hx hb dX8_giveHeaps_83 rfl (lv_at hl 2 rfl) ?_
        refine g8 (v := (.ref (ad L 7))) S hK h 8 (by decide) rfl rfl q_604 dX8_giveHeaps_84 ?_
        refine lv_iload_n hx hb dX8_giveHeaps_87 rfl (lv_at hl 0 rfl) ?_
        refine g8_el (n := 400) S hK h (by decide) rfl (by omega) dX8_giveHeaps_88 ?_
        refine cv_i (show ((mu (mu (mu σ1 1 (2 + 1024 * d + (4 + (4 * j) + 0)) (σ 4 j)) 1 (2 + 1024 * d + (4 + (4 * j) + 1)) (σ 5 j)) 1 (2 + 1024 * d + (4 + (4 * j) + 2)) (σ 6 j)) 7 j : Int32) = σ 7 j from (by first | rfl | (simp only [mu]; rw [ho9 7 (by omega)]; simp) | (rw [ho9 7 (by omega)]))) ?_
        refine q_V08 S hI hK h [.int (nI d), .int (nI (4 + (4 * j) + 3)), .int (σ 7 j)] (c_X8_setPart l L (mu (mu (mu σ1 1 (2 + 1024 * d + (4 + (4 * j) + 0)) (σ 4 j)) 1 (2 + 1024 * d + (4 + (4 * j) + 1)) (σ 5 j)) 1 (2 + 1024 * d + (4 + (4 * j) + 2)) (σ 6 j)) (d := d) (q := 4 + (4 * j) + 3) (by omega) (σ 7 j)) q_713 q_715 qs_26 q_10 q_716 yd_X8_setPart rfl ⟨⟨rfl, rfl⟩, ⟨(Nat.le_of_ble_eq_true rfl), (Nat.le_of_ble_eq_true rfl)⟩, Nat.le_refl _, Nat.le_refl _⟩ rfl (Nat.le_of_ble_eq_true rfl) hl.1 dX8_giveHeaps_89 (fun H locs h => ?_)
        have h := h.to (show mu (mu (mu (mu σ1 1 (2 + 1024 * d + (4 + (4 * j) + 0)) (σ 4 j)) 1 (2 + 1024 * d + (4 + (4 * j) + 1)) (σ 5 j)) 1 (2 + 1024 * d + (4 + (4 * j) + 2)) (σ 6 j)) 1 (2 + 1024 * d + (4 + (4 * j) + 3)) (σ 7 j) = wr8 σ1 d j (σ 4 j, σ 5 j, σ 6 j, σ 7 j) from rfl)
        refine lv_iinc (v := (nI (j + 1))) (lv' := [(2, .int (nI (j + 1))), (1, .int (nI d)), (0, .ref (ad L 0))]) hx hb dX8_giveHeaps_92 hl (k := 0) rfl (iinc_1 _) (by decide) rfl (fun ls hl => ?_)
        refine lv_goto (tgt := 12) hx hb dX8_giveHeaps_95 (by decide) ?_
        exact ih_12 (j + 1) (wr8 σ1 d j (σ 4 j, σ 5 j, σ 6 j, σ 7 j)) (by omega) (fun i hi => by by_cases q9 : i = j; rw [q9, wr8_s]; exact (hw9 : _); rw [wr8_n q9]; exact hw i (by omega)) (by rw [wr8_o (by omega)]; exact h0) (fun i hi => by rw [wr8_o (by omega)]; exact hr8 i hi) (fun k hk => by rw [wr8_k hk]; exact ho9 k hk) (by omega) _ _ _ h (lv_sub hl [0, 1, 2] rfl)
  exact LP_12 _ 0 (mu σ 1 (2 + 1024 * d + 0) (nI A.length)) (by omega) (fun i hi => absurd hi (Nat.not_lt_zero _)) mu_s (fun i hi => mu_i (by omega)) (fun k hk => mu_r hk) (Nat.lt_succ_self _) _ _ _ h (lv_sub hl [0, 2, 1] rfl)

abbrev rX8_takeHeaps : Room := { frames := 2, cells := 0, slots := 0, locals := 45 }
theorem yd_X8_takeHeaps : ydV yX8_takeHeaps RX8 1 := ⟨rfl, by decide +kernel, by decide +kernel, by decide +kernel⟩
set_option maxHeartbeats 4000000 in
set_option maxRecDepth 100000 in
theorem c_X8_takeHeaps (l : Launch) (L : Lay) (σ : Me) {d : Nat} {D : Dg} {A : List Hp} (hd : d < 3) (hM : MDg (σ 1) d D) (hA : HL σ A) (l1 : D.1.length ≤ 200) (l2 : A.length + D.1.length ≤ 399) : Mg8 l L yX8_takeHeaps (Cond.code yX8_takeHeaps cX8_takeHeaps 3 none :: qA) rX8_takeHeaps [.ref (ad L 0), .int (nI d)] σ (fun r u => r = none ∧ HL u (A ++ D.1) ∧ Ot σ u) := by
  refine Mr8_ofW (by decide) (Nat.le_of_ble_eq_true rfl) ?_
  intro p e s m args below meth c ls post hp hI S hr hlk hK h hl
  have hx := S.1
  have hb := S.2.1
  have hl : lv_has ls 3 [(0, .ref (ad L 0)), (1, .int (nI d))] := hl
  obtain ⟨m1, m2, m3, m4, m5, m6, m7⟩ := id hM
  refine lv_iconst (v := (nI 0)) hx hb dX8_takeHeaps_0 (by decide) ?_
  refine lv_istore_n (lv' := [(2, .int (nI 0)), (0, .ref (ad L 0)), (1, .int (nI d))]) hx hb dX8_takeHeaps_1 rfl hl (by decide) rfl (fun ls hl => ?_)
  have LP_2 : ∀ (n_2 : Nat) (j : Nat) (σ1 : Me), (j ≤ D.1.length) → (HL σ1 (A ++ D.1.take j)) → (Ot σ σ1) → D.1.length - j < n_2 → ∀ (H : Heap) (locs : List Loc) (ls : Array Slot), Hd8 L s.heap H σ1 locs → lv_has ls 3 [(2, .int (nI j)), (1, .int (nI d)), (0, .ref (ad L 0))] → W p l e rX8_takeHeaps s m args below meth c H locs 0 0 (MQ below (Qg post (bs8 L) (Aw8 L)) args s 0 0 (Aw8 L)) (F0 m 2 ls []) := by
    intro n_2
    induction n_2 with
    | zero => intro j σ1; intros; omega
    | succ n_2 ih_2 =>
      intro j σ1 hj hL hO hm_2 H locs ls h hl
      have r1 := hO.r1
      have hll : (A ++ D.1.take j).length = A.length + j := by rw [List.length_append, List.length_take]; omega
      refine lv_iload_n hx hb dX8_takeHeaps_2 rfl (lv_at hl 0 rfl) ?_
      refine lv_aload_n hx hb dX8_takeHeaps_3 rfl (lv_at hl 2 rfl) ?_
      refine lv_iload_n hx hb dX8_takeHeaps_4 rfl (lv_at hl 1 rfl) ?_
      refine lv_iconst (v := (nI 0)) hx hb dX8_takeHeaps_5 (by decide) ?_
      refine q_V18 S hI hK h [.int (nI d), .int (nI 0)] (c_X8_part l L σ1 (d := d) (q := 0) (by omega)) q_657 q_659 qs_13 q_10 q_660 yd_X8_part rfl ⟨⟨rfl, rfl⟩, ⟨(Nat.le_of_ble_eq_true rfl), (Nat.le_of_ble_eq_true rfl)⟩, Nat.le_refl _, Nat.le_refl _⟩ rfl (Nat.le_of_ble_eq_true rfl) hl.1 dX8_takeHeaps_6 (fun H locs h => ?_)
      refine cv_i (show (σ1 1 (2 + 1024 * d + 0) : Int32) = nI D.1.length from (by rw [r1]; exact m1)) ?_
      refine b_icmp_ge (tgt := 50) hx hb dX8_takeHeaps_9 (by decide) (by omega) (by omega) (fun c_9 => ?_) (fun c_9 => ?_)
      · have e4 : j = D.1.length := by omega
        exact e_v8 S hK h hr hlk dX8_takeHeaps_50 (hp _ _ ⟨rfl, by rw [e4, List.take_of_length_le (Nat.le_refl _)] at hL; exact hL, hO⟩)
      · refine lv_aload_n hx hb dX8_takeHeaps_12 rfl (lv_at hl 2 rfl) ?_
        refine lv_aload_n hx hb dX8_takeHeaps_13 rfl (lv_at hl 2 rfl) ?_
        refine lv_iload_n hx hb dX8_takeHeaps_14 rfl (lv_at hl 1 rfl) ?_
        refine lv_iload_n hx hb dX8_takeHeaps_15 rfl (lv_at hl 0 rfl) ?_
        refine lv_iconst (v := (nI 0)) hx hb dX8_takeHeaps_16 (by decide) ?_
        refine q_V18 S hI hK h [.int (nI d), .int (nI j), .int (nI 0)] (c_X8_heapPart l L σ1 (d := d) (j := j) (q := 0) (by omega)) q_685 q_687 qs_19 q_10 q_688 yd_X8_heapPart rfl ⟨⟨rfl, rfl⟩, ⟨(Nat.le_of_ble_eq_true rfl), (Nat.le_of_ble_eq_true rfl)⟩, Nat.le_refl _, Nat.le_refl _⟩ rfl (Nat.le_of_ble_eq_true rfl) hl.1 dX8_takeHeaps_17 (fun H locs h => ?_)
        refine lv_aload_n hx hb dX8_takeHeaps_20 rfl (lv_at hl 2 rfl) ?_
        refine lv_iload_n hx hb dX8_takeHeaps_21 rfl (lv_at hl 1 rfl) ?_
        refine lv_iload_n hx hb dX8_takeHeaps_22 rfl (lv_at hl 0 rfl) ?_
        refine lv_iconst (v := (nI 1)) hx hb dX8_takeHeaps_23 (by decide) ?_
        refine q_V18 S hI hK h [.int (nI d), .int (nI j), .int (nI 1)] (c_X8_heapPart l L σ1 (d := d) (j := j) (q := 1) (by omega)) q_685 q_687 qs_19 q_10 q_688 yd_X8_heapPart rfl ⟨⟨rfl, rfl⟩, ⟨(Nat.le_of_ble_eq_true rfl), (Nat.le_of_ble_eq_true rfl)⟩, Nat.le_refl _, Nat.le_refl _⟩ rfl (Nat.le_of_ble_eq_true rfl) hl.1 dX8_takeHeaps_24 (fun H locs h => ?_)
        refine lv_aload_n hx hb dX8_takeHeaps_27 rfl (lv_at hl 2 rfl) ?_
        refine lv_iload_n hx hb dX8_takeHeaps_28 rfl (lv_at hl 1 rfl) ?_
        refine lv_iload_n hx hb dX8_takeHeaps_29 rfl (lv_at hl 0 rfl) ?_
        refine lv_iconst (v := (nI 2)) hx hb dX8_takeHeaps_30 (by decide) ?_
        refine q_V18 S hI hK h [.int (nI d), .int (nI j), .int (nI 2)] (c_X8_heapPart l L σ1 (d := d) (j := j) (q := 2) (by omega)) q_685 q_687 qs_19 q_10 q_688 yd_X8_heapPart rfl ⟨⟨rfl, rfl⟩, ⟨(Nat.le_of_ble_eq_true rfl), (Nat.le_of_ble_eq_true rfl)⟩, Nat.le_refl _, Nat.le_refl _⟩ rfl (Nat.le_of_ble_eq_true rfl) hl.1 dX8_takeHeaps_31 (fun H locs h => ?_)
        refine lv_aload_n hx hb dX8_takeHeaps_34 rfl (lv_at hl 2 rfl) ?_
        refine lv_iload_n hx hb dX8_takeHeaps_35 rfl (lv_at hl 1 rfl) ?_
        refine lv_iload_n hx hb dX8_takeHeaps_36 rfl (lv_at hl 0 rfl) ?_
        refine lv_iconst (v := (nI 3)) hx hb dX8_takeHeaps_37 (by decide) ?_
        refine q_V18 S hI hK h [.int (nI d), .int (nI j), .int (nI 3)] (c_X8_heapPart l L σ1 (d := d) (j := j) (q := 3) (by omega)) q_685 q_687 qs_19 q_10 q_688 yd_X8_heapPart rfl ⟨⟨rfl, rfl⟩, ⟨(Nat.le_of_ble_eq_true rfl), (Nat.le_of_ble_eq_true rfl)⟩, Nat.le_refl _, Nat.le_refl _⟩ rfl (Nat.le_of_ble_eq_true rfl) hl.1 dX8_takeHeaps_38 (fun H locs h => ?_)
        refine q_V08 S hI hK h [.int (σ1 1 (2 + 1024 * d + (4 + 4 * j + 0))), .int (σ1 1 (2 + 1024 * d + (4 + 4 * j + 1))), .int (σ1 1 (2 + 1024 * d + (4 + 4 * j + 2))), .int (σ1 1 (2 + 1024 * d + (4 + 4 * j + 3)))] (c_X8_takeHeap l L σ1 (hL.1.trans (congrArg nI hll)) (by omega) (σ1 1 (2 + 1024 * d + (4 + 4 * j + 0))) (σ1 1 (2 + 1024 * d + (4 + 4 * j + 1))) (σ1 1 (2 + 1024 * d + (4 + 4 * j + 2))) (σ1 1 (2 + 1024 * d + (4 + 4 * j + 3)))) q_689 q_691 qs_20 q_10 q_692 yd_X8_takeHeap rfl ⟨⟨rfl, rfl⟩, ⟨(Nat.le_of_ble_eq_true rfl), (Nat.le_of_ble_eq_true rfl)⟩, Nat.le_refl _, Nat.le_refl _⟩ rfl (Nat.le_of_ble_eq_true rfl) hl.1 dX8_takeHeaps_41 (fun H locs h => ?_)
        have h := h.to (show tk8 σ1 (A.length + j) (σ1 1 (2 + 1024 * d + (4 + 4 * j + 0)), σ1 1 (2 + 1024 * d + (4 + 4 * j + 1)), σ1 1 (2 + 1024 * d + (4 + 4 * j + 2)), σ1 1 (2 + 1024 * d + (4 + 4 * j + 3))) = tk8 σ1 (A.length + j) (D.1.getD j hd0) from (by rw [← m5 j c_9, ← r1]; rfl))
        refine lv_iinc (v := (nI (j + 1))) (lv' := [(2, .int (nI (j + 1))), (1, .int (nI d)), (0, .ref (ad L 0))]) hx hb dX8_takeHeaps_44 hl (k := 0) rfl (iinc_1 _) (by decide) rfl (fun ls hl => ?_)
        refine lv_goto (tgt := 2) hx hb dX8_takeHeaps_47 (by decide) ?_
        exact ih_2 (j + 1) (tk8 σ1 (A.length + j) (D.1.getD j hd0)) (by omega) (by have q9 := hL.tk (x := D.1.getD j hd0); rw [hll, List.append_assoc, take_snoc (d := hd0) c_9] at q9; exact q9) (hO.tr Ot.tk) (by omega) _ _ _ h (lv_sub hl [0, 1, 2] rfl)
  exact LP_2 _ 0 σ (by omega) (by rw [List.take_zero, List.append_nil]; exact hA) Ot.rf (Nat.lt_succ_self _) _ _ _ h (lv_sub hl [0, 2, 1] rfl)

abbrev rX8_takeBuffer : Room := { frames := 1, cells := 0, slots := 0, locals := 24 }
theorem yd_X8_takeBuffer : ydV yX8_takeBuffer RX8 1 := ⟨rfl, by decide +kernel, by decide +kernel, by decide +kernel⟩
set_option maxHeartbeats 4000000 in
set_option maxRecDepth 100000 in
theorem c_X8_takeBuffer (l : Launch) (L : Lay) (σ : Me) {d : Nat} {D : Dg} {A : List Hp} (hd : d < 3) (hM : MDg (σ 1) d D) (hA : HL σ A) (l1 : D.2.1.length ≤ 20) (l2 : A.length + D.2.1.length ≤ 399) : Mg8 l L yX8_takeBuffer (Cond.code yX8_takeBuffer cX8_takeBuffer 4 none :: qA) rX8_takeBuffer [.ref (ad L 0), .int (nI d)] σ (fun r u => r = none ∧ HL u (A ++ D.2.1.map hunit) ∧ Ot σ u) := by
  refine Mr8_ofW (by decide) (Nat.le_of_ble_eq_true rfl) ?_
  intro p e s m args below meth c ls post hp hI S hr hlk hK h hl
  have hx := S.1
  have hb := S.2.1
  have hl : lv_has ls 4 [(0, .ref (ad L 0)), (1, .int (nI d))] := hl
  obtain ⟨m1, m2, m3, m4, m5, m6, m7⟩ := id hM
  refine lv_iconst (v := (nI 0)) hx hb dX8_takeBuffer_0 (by decide) ?_
  refine lv_istore_n (lv' := [(2, .int (nI 0)), (0, .ref (ad L 0)), (1, .int (nI d))]) hx hb dX8_takeBuffer_1 rfl hl (by decide) rfl (fun ls hl => ?_)
  have LP_2 : ∀ (n_2 : Nat) (j : Nat) (σ1 : Me), (j ≤ D.2.1.length) → (HL σ1 (A ++ (D.2.1.take j).map hunit)) → (Ot σ σ1) → D.2.1.length - j < n_2 → ∀ (H : Heap) (locs : List Loc) (ls : Array Slot), Hd8 L s.heap H σ1 locs → lv_has ls 4 [(2, .int (nI j)), (1, .int (nI d)), (0, .ref (ad L 0))] → W p l e rX8_takeBuffer s m args below meth c H locs 0 0 (MQ below (Qg post (bs8 L) (Aw8 L)) args s 0 0 (Aw8 L)) (F0 m 2 ls []) := by
    intro n_2
    induction n_2 with
    | zero => intro j σ1; intros; omega
    | succ n_2 ih_2 =>
      intro j σ1 hj hL hO hm_2 H locs ls h hl
      have r1 := hO.r1
      have hll : (A ++ (D.2.1.take j).map hunit).length = A.length + j := by rw [List.length_append, List.length_map, List.length_take]; omega
      refine lv_iload_n hx hb dX8_takeBuffer_2 rfl (lv_at hl 0 rfl) ?_
      refine lv_aload_n hx hb dX8_takeBuffer_3 rfl (lv_at hl 2 rfl) ?_
      refine lv_iload_n hx hb dX8_takeBuffer_4 rfl (lv_at hl 1 rfl) ?_
      refine lv_iconst (v := (nI 1)) hx hb dX8_takeBuffer_5 (by decide) ?_
      refine q_V18 S hI hK h [.int (nI d), .int (nI 1)] (c_X8_part l L σ1 (d := d) (q := 1) (by omega)) q_657 q_659 qs_13 q_10 q_660 yd_X8_part rfl ⟨⟨rfl, rfl⟩, ⟨(Nat.le_of_ble_eq_true rfl), (Nat.le_of_ble_eq_true rfl)⟩, Nat.le_refl _, Nat.le_refl _⟩ rfl (Nat.le_of_ble_eq_true rfl) hl.1 dX8_takeBuffer_6 (fun H locs h => ?_)
      refine cv_i (show (σ1 1 (2 + 1024 * d + 1) : Int32) = nI D.2.1.length from (by rw [r1]; exact m2)) ?_
      refine b_icmp_ge (tgt := 37) hx hb dX8_takeBuffer_9 (by decide) (by omega) (by omega) (fun c_9 => ?_) (fun c_9 => ?_)
      · have e4 : j = D.2.1.length := by omega
        exact e_v8 S hK h hr hlk dX8_takeBuffer_37 (hp _ _ ⟨rfl, by rw [e4, List.take_of_length_le (Nat.le_refl _)] at hL; exact hL, hO⟩)
      · refine lv_aload_n hx hb dX8_takeBuffer_12 rfl (lv_at hl 2 rfl) ?_
        refine lv_iload_n hx hb dX8_takeBuffer_13 rfl (lv_at hl 1 rfl) ?_
        refine lv_sipush (v := (nI 804)) hx hb dX8_takeBuffer_14 (by decide) ?_
        refine lv_iload_n hx hb dX8_takeBuffer_17 rfl (lv_at hl 0 rfl) ?_
        refine a_iadd hx hb dX8_takeBuffer_18 ?_
        refine q_V18 S hI hK h [.int (nI d), .int (nI (804 + j))] (c_X8_part l L σ1 (d := d) (q := 804 + j) (by omega)) q_657 q_659 qs_13 q_10 q_660 yd_X8_part rfl ⟨⟨rfl, rfl⟩, ⟨(Nat.le_of_ble_eq_true rfl), (Nat.le_of_ble_eq_true rfl)⟩, Nat.le_refl _, Nat.le_refl _⟩ rfl (Nat.le_of_ble_eq_true rfl) hl.1 dX8_takeBuffer_19 (fun H locs h => ?_)
        refine cv_i (show (σ1 1 (2 + 1024 * d + (804 + j)) : Int32) = D.2.1.getD j 0 from (by rw [r1]; exact m6 j c_9)) ?_
        refine lv_istore_n (lv' := [(3, .int (D.2.1.getD j 0)), (2, .int (nI j)), (1, .int (nI d)), (0, .ref (ad L 0))]) hx hb dX8_takeBuffer_22 rfl hl (by decide) rfl (fun ls hl => ?_)
        refine lv_aload_n hx hb dX8_takeBuffer_23 rfl (lv_at hl 3 rfl) ?_
        refine lv_iconst (v := (nI 1)) hx hb dX8_takeBuffer_24 (by decide) ?_
        refine lv_iload_n hx hb dX8_takeBuffer_25 rfl (lv_at hl 0 rfl) ?_
        refine lv_iload_n hx hb dX8_takeBuffer_26 rfl (lv_at hl 0 rfl) ?_
        refine lv_iload_n hx hb dX8_takeBuffer_27 rfl (lv_at hl 0 rfl) ?_
        refine q_V08 S hI hK h [.int (nI 1), .int (D.2.1.getD j 0), .int (D.2.1.getD j 0), .int (D.2.1.getD j 0)] (c_X8_takeHeap l L σ1 (hL.1.trans (congrArg nI hll)) (by omega) (nI 1) (D.2.1.getD j 0) (D.2.1.getD j 0) (D.2.1.getD j 0)) q_689 q_691 qs_20 q_10 q_692 yd_X8_takeHeap rfl ⟨⟨rfl, rfl⟩, ⟨(Nat.le_of_ble_eq_true rfl), (Nat.le_of_ble_eq_true rfl)⟩, Nat.le_refl _, Nat.le_refl _⟩ rfl (Nat.le_of_ble_eq_true rfl) hl.1 dX8_takeBuffer_28 (fun H locs h => ?_)
        have h := h.to (show tk8 σ1 (A.length + j) (nI 1, D.2.1.getD j 0, D.2.1.getD j 0, D.2.1.getD j 0) = tk8 σ1 (A.length + j) (hunit (D.2.1.getD j 0)) from (by rw [show nI 1 = (1 : Int32) from by decide +kernel]; rfl))
        refine lv_iinc (v := (nI (j + 1))) (lv' := [(2, .int (nI (j + 1))), (3, .int (D.2.1.getD j 0)), (1, .int (nI d)), (0, .ref (ad L 0))]) hx hb dX8_takeBuffer_31 hl (k := 1) rfl (iinc_1 _) (by decide) rfl (fun ls hl => ?_)
        refine lv_goto (tgt := 2) hx hb dX8_takeBuffer_34 (by decide) ?_
        exact ih_2 (j + 1) (tk8 σ1 (A.length + j) (hunit (D.2.1.getD j 0))) (by omega) (by have q9 := hL.tk (x := hunit (D.2.1.getD j 0)); rw [hll, List.append_assoc, show [hunit (D.2.1.getD j 0)] = [D.2.1.getD j 0].map hunit from rfl, ← List.map_append, take_snoc (d := 0) c_9] at q9; exact q9) (hO.tr Ot.tk) (by omega) _ _ _ h (lv_sub hl [0, 2, 3] rfl)
  exact LP_2 _ 0 σ (by omega) (by rw [List.take_zero, List.map_nil, List.append_nil]; exact hA) Ot.rf (Nat.lt_succ_self _) _ _ _ h (lv_sub hl [0, 2, 1] rfl)

abbrev rX8_putInOrder : Room := { frames := 1, cells := 0, slots := 0, locals := 22 }
theorem yd_X8_putInOrder : ydV yX8_putInOrder RX8 0 := ⟨rfl, by decide +kernel, by decide +kernel, by decide +kernel⟩
set_option maxHeartbeats 4000000 in
set_option maxRecDepth 100000 in
theorem c_X8_putInOrder (l : Launch) (L : Lay) (σ : Me) {A : List Hp} (hA : HL σ A) (hG : ∀ x ∈ A, GH x) (l2 : A.length ≤ 399) : Mg8 l L yX8_putInOrder (Cond.code yX8_putInOrder cX8_putInOrder 3 none :: qA) rX8_putInOrder [.ref (ad L 0)] σ (fun r u => r = none ∧ HL u (order A) ∧ Ot σ u) := by
  refine Mr8_ofW (by decide) (Nat.le_of_ble_eq_true rfl) ?_
  intro p e s m args below meth c ls post hp hI S hr hlk hK h hl
  have hx := S.1
  have hb := S.2.1
  have hl : lv_has ls 3 [(0, .ref (ad L 0))] := hl
  refine lv_iconst (v := (nI 1)) hx hb dX8_putInOrder_0 (by decide) ?_
  refine lv_istore_n (lv' := [(1, .int (nI 1)), (0, .ref (ad L 0))]) hx hb dX8_putInOrder_1 rfl hl (by decide) rfl (fun ls hl => ?_)
  have LP_2 : ∀ (n_2 : Nat) (k0 : Nat) (σ1 : Me), (k0 + 1 ≤ A.length ∨ k0 = 0) → (HL σ1 (oSort A k0)) → (Ot σ σ1) → A.length - k0 < n_2 → ∀ (H : Heap) (locs : List Loc) (ls : Array Slot), Hd8 L s.heap H σ1 locs → lv_has ls 3 [(1, .int (nI (k0 + 1))), (0, .ref (ad L 0))] → W p l e rX8_putInOrder s m args below meth c H locs 0 0 (MQ below (Qg post (bs8 L) (Aw8 L)) args s 0 0 (Aw8 L)) (F0 m 2 ls []) := by
    intro n_2
    induction n_2 with
    | zero => intro k0 σ1; intros; omega
    | succ n_2 ih_2 =>
      intro k0 σ1 hk hL hO hm_2 H locs ls h hl
      have hm1 : σ1 0 2 = nI A.length := by rw [hL.1, oSort_len]
      refine lv_iload_n hx hb dX8_putInOrder_2 rfl (lv_at hl 0 rfl) ?_
      refine lv_aload_n hx hb dX8_putInOrder_3 rfl (lv_at hl 1 rfl) ?_
      refine g8 (v := (.int (σ1 0 2))) S hK h 9 (by decide) rfl rfl q_605 dX8_putInOrder_4 ?_
      refine cv_i (show (σ1 0 2 : Int32) = nI A.length from hm1) ?_
      refine b_icmp_ge (tgt := 93) hx hb dX8_putInOrder_7 (by decide) (by omega) (by omega) (fun c_7 => ?_) (fun c_7 => ?_)
      · have e4 : k0 = A.length - 1 := by omega
        exact e_v8 S hK h hr hlk dX8_putInOrder_93 (hp _ _ ⟨rfl, by rw [order, ← e4]; exact hL, hO⟩)
      · have hPm := oSort_perm (A := A) k0 (by omega)
        refine lv_aload_n hx hb dX8_putInOrder_10 rfl (lv_at hl 1 rfl) ?_
        refine lv_iload_n hx hb dX8_putInOrder_11 rfl (lv_at hl 0 rfl) ?_
        refine lv_aload_n hx hb dX8_putInOrder_12 rfl (lv_at hl 1 rfl) ?_
        refine g8 (v := (.int (σ1 0 2))) S hK h 9 (by decide) rfl rfl q_605 dX8_putInOrder_13 ?_
        refine cv_i (show (σ1 0 2 : Int32) = nI A.length from hm1) ?_
        refine q_V08 S hI hK h [.int (nI (k0 + 1)), .int (nI A.length)] (c_X8_copyHeap l L σ1 (i := k0 + 1) (j := A.length) (by omega) (by omega)) q_701 q_703 qs_23 q_10 q_704 yd_X8_copyHeap rfl ⟨⟨rfl, rfl⟩, ⟨(Nat.le_of_ble_eq_true rfl), (Nat.le_of_ble_eq_true rfl)⟩, Nat.le_refl _, Nat.le_refl _⟩ rfl (Nat.le_of_ble_eq_true rfl) hl.1 dX8_putInOrder_16 (fun H locs h => ?_)
        refine lv_iload_n hx hb dX8_putInOrder_19 rfl (lv_at hl 0 rfl) ?_
        refine lv_istore_n (lv' := [(2, .int (nI (k0 + 1))), (1, .int (nI (k0 + 1))), (0, .ref (ad L 0))]) hx hb dX8_putInOrder_20 rfl hl (by decide) rfl (fun ls hl => ?_)
        have LP_21 : ∀ (n_21 : Nat) (p0 : Nat) (B : List Hp) (σ2 : Me), (p0 ≤ k0 + 1) → (B.length = A.length) → (∀ y ∈ B, GH y) → (hp8 σ2 A.length = B.getD p0 hd0) → (∀ i, i < A.length → i ≠ p0 → hp8 σ2 i = B.getD i hd0) → (σ2 0 2 = nI A.length) → (Ot σ σ2) → (oSort A (k0 + 1) = sift hd0 gtH p0 B) → p0 < n_21 → ∀ (H : Heap) (locs : List Loc) (ls : Array Slot), Hd8 L s.heap H σ2 locs → lv_has ls 3 [(2, .int (nI p0)), (1, .int (nI (k0 + 1))), (0, .ref (ad L 0))] → W p l e rX8_putInOrder s m args below meth c H locs 0 0 (MQ below (Qg post (bs8 L) (Aw8 L)) args s 0 0 (Aw8 L)) (F0 m 21 ls []) := by
          intro n_21
          induction n_21 with
          | zero => intro p0 B σ2; intros; omega
          | succ n_21 ih_21 =>
            intro p0 B σ2 hp0 hB hBG hx9 hh hm2 hO2 hs hm_21 H locs ls h hl
            refine lv_iload_n hx hb dX8_putInOrder_21 rfl (lv_at hl 0 rfl) ?_
            refine b_if_le (tgt := 78) hx hb dX8_putInOrder_22 (by decide) (by omega) (fun c_22 => ?_) (fun c_22 => ?_)
            · have hs2 : oSort A (k0 + 1) = B := by rw [hs, c_22]; rfl
              refine lv_aload_n hx hb dX8_putInOrder_78 rfl (lv_at hl 2 rfl) ?_
              refine lv_aload_n hx hb dX8_putInOrder_79 rfl (lv_at hl 2 rfl) ?_
              refine g8 (v := (.int (σ2 0 2))) S hK h 9 (by decide) rfl rfl q_605 dX8_putInOrder_80 ?_
              refine cv_i (show (σ2 0 2 : Int32) = nI A.length from hm2) ?_
              refine lv_iload_n hx hb dX8_putInOrder_83 rfl (lv_at hl 0 rfl) ?_
              refine q_V08 S hI hK h [.int (nI A.length), .int (nI p0)] (c_X8_copyHeap l L σ2 (i := A.length) (j := p0) (by omega) (by omega)) q_701 q_703 qs_23 q_10 q_704 yd_X8_copyHeap rfl ⟨⟨rfl, rfl⟩, ⟨(Nat.le_of_ble_eq_true rfl), (Nat.le_of_ble_eq_true rfl)⟩, Nat.le_refl _, Nat.le_refl _⟩ rfl (Nat.le_of_ble_eq_true rfl) hl.1 dX8_putInOrder_84 (fun H locs h => ?_)
              refine lv_iinc (v := (nI (k0 + 1 + 1))) (lv' := [(1, .int (nI (k0 + 1 + 1))), (2, .int (nI p0)), (0, .ref (ad L 0))]) hx hb dX8_putInOrder_87 hl (k := 1) rfl (iinc_1 _) (by decide) rfl (fun ls hl => ?_)
              refine lv_goto (tgt := 2) hx hb dX8_putInOrder_90 (by decide) ?_
              exact ih_2 (k0 + 1) (put8 σ2 p0 (hp8 σ2 A.length)) (by omega) (hs2 ▸ HL_fill hB hm2 hx9 hh) (hO2.tr Ot.put) (by omega) _ _ _ h (lv_sub hl [0, 2] rfl)
            · obtain ⟨p1, rfl⟩ : ∃ z, p0 = z + 1 := ⟨p0 - 1, by omega⟩
              have e1 := hh p1 (by omega) (by omega)
              have g9 : gtH (B.getD p1 hd0) (B.getD (p1 + 1) hd0) = true ↔ σ2 5 A.length * σ2 4 p1 < σ2 5 p1 * σ2 4 A.length := by have q9 := gt8 (hBG _ (mem_getD (d := hd0) (show p1 < B.length by omega))) (hBG _ (mem_getD (d := hd0) (show p1 + 1 < B.length by omega))); rw [← e1, ← hx9] at q9 ⊢; exact q9
              refine lv_aload_n hx hb dX8_putInOrder_25 rfl (lv_at hl 2 rfl) ?_
              refine g8 (v := (.ref (ad L 5))) S hK h 6 (by decide) rfl rfl q_602 dX8_putInOrder_26 ?_
              refine lv_iload_n hx hb dX8_putInOrder_29 rfl (lv_at hl 0 rfl) ?_
              refine lv_iconst (v := (nI 1)) hx hb dX8_putInOrder_30 (by decide) ?_
              refine a_isub hx hb dX8_putInOrder_31 (by omega) ?_
              refine cv_i (show (nI ((p1 + 1) - 1) : Int32) = nI p1 from (by rw [Nat.add_sub_cancel])) ?_
              refine g8_el (n := 400) S hK h (by decide) rfl (by omega) dX8_putInOrder_32 ?_
              refine lv_aload_n hx hb dX8_putInOrder_33 rfl (lv_at hl 2 rfl) ?_
              refine g8 (v := (.ref (ad L 4))) S hK h 5 (by decide) rfl rfl q_601 dX8_putInOrder_34 ?_
              refine lv_aload_n hx hb dX8_putInOrder_37 rfl (lv_at hl 2 rfl) ?_
              refine g8 (v := (.int (σ2 0 2))) S hK h 9 (by decide) rfl rfl q_605 dX8_putInOrder_38 ?_
              refine cv_i (show (σ2 0 2 : Int32) = nI A.length from hm2) ?_
              refine g8_el (n := 400) S hK h (by decide) rfl (by omega) dX8_putInOrder_41 ?_
              refine lv_imul hx hb dX8_putInOrder_42 ?_
              refine lv_aload_n hx hb dX8_putInOrder_43 rfl (lv_at hl 2 rfl) ?_
              refine g8 (v := (.ref (ad L 5))) S hK h 6 (by decide) rfl rfl q_602 dX8_putInOrder_44 ?_
              refine lv_aload_n hx hb dX8_putInOrder_47 rfl (lv_at hl 2 rfl) ?_
              refine g8 (v := (.int (σ2 0 2))) S hK h 9 (by decide) rfl rfl q_605 dX8_putInOrder_48 ?_
              refine cv_i (show (σ2 0 2 : Int32) = nI A.length from hm2) ?_
              refine g8_el (n := 400) S hK h (by decide) rfl (by omega) dX8_putInOrder_51 ?_
              refine lv_aload_n hx hb dX8_putInOrder_52 rfl (lv_at hl 2 rfl) ?_
              refine g8 (v := (.ref (ad L 4))) S hK h 5 (by decide) rfl rfl q_601 dX8_putInOrder_53 ?_
              refine lv_iload_n hx hb dX8_putInOrder_56 rfl (lv_at hl 0 rfl) ?_
              refine lv_iconst (v := (nI 1)) hx hb dX8_putInOrder_57 (by decide) ?_
              refine a_isub hx hb dX8_putInOrder_58 (by omega) ?_
              refine cv_i (show (nI ((p1 + 1) - 1) : Int32) = nI p1 from (by rw [Nat.add_sub_cancel])) ?_
              refine g8_el (n := 400) S hK h (by decide) rfl (by omega) dX8_putInOrder_59 ?_
              refine lv_imul hx hb dX8_putInOrder_60 ?_
              refine lv_icmp_le (tgt := 78) hx hb dX8_putInOrder_61 (by decide) (fun c_61 => ?_) (fun c_61 => ?_)
              · have hs2 : oSort A (k0 + 1) = B := by rw [hs, sift, if_neg (fun z => absurd (g9.mp z) (Int32.not_lt.mpr c_61))]
                refine lv_aload_n hx hb dX8_putInOrder_78 rfl (lv_at hl 2 rfl) ?_
                refine lv_aload_n hx hb dX8_putInOrder_79 rfl (lv_at hl 2 rfl) ?_
                refine g8 (v := (.int (σ2 0 2))) S hK h 9 (by decide) rfl rfl q_605 dX8_putInOrder_80 ?_
                refine cv_i (show (σ2 0 2 : Int32) = nI A.length from hm2) ?_
                refine lv_iload_n hx hb dX8_putInOrder_83 rfl (lv_at hl 0 rfl) ?_
                refine q_V08 S hI hK h [.int (nI A.length), .int (nI (p1 + 1))] (c_X8_copyHeap l L σ2 (i := A.length) (j := p1 + 1) (by omega) (by omega)) q_701 q_703 qs_23 q_10 q_704 yd_X8_copyHeap rfl ⟨⟨rfl, rfl⟩, ⟨(Nat.le_of_ble_eq_true rfl), (Nat.le_of_ble_eq_true rfl)⟩, Nat.le_refl _, Nat.le_refl _⟩ rfl (Nat.le_of_ble_eq_true rfl) hl.1 dX8_putInOrder_84 (fun H locs h => ?_)
                refine lv_iinc (v := (nI (k0 + 1 + 1))) (lv' := [(1, .int (nI (k0 + 1 + 1))), (2, .int (nI (p1 + 1))), (0, .ref (ad L 0))]) hx hb dX8_putInOrder_87 hl (k := 1) rfl (iinc_1 _) (by decide) rfl (fun ls hl => ?_)
                refine lv_goto (tgt := 2) hx hb dX8_putInOrder_90 (by decide) ?_
                exact ih_2 (k0 + 1) (put8 σ2 (p1 + 1) (hp8 σ2 A.length)) (by omega) (hs2 ▸ HL_fill hB hm2 hx9 hh) (hO2.tr Ot.put) (by omega) _ _ _ h (lv_sub hl [0, 2] rfl)
              · refine lv_aload_n hx hb dX8_putInOrder_64 rfl (lv_at hl 2 rfl) ?_
                refine lv_iload_n hx hb dX8_putInOrder_65 rfl (lv_at hl 0 rfl) ?_
                refine lv_iconst (v := (nI 1)) hx hb dX8_putInOrder_66 (by decide) ?_
                refine a_isub hx hb dX8_putInOrder_67 (by omega) ?_
                refine cv_i (show (nI ((p1 + 1) - 1) : Int32) = nI p1 from (by rw [Nat.add_sub_cancel])) ?_
                refine lv_iload_n hx hb dX8_putInOrder_68 rfl (lv_at hl 0 rfl) ?_
                refine q_V08 S hI hK h [.int (nI p1), .int (nI (p1 + 1))] (c_X8_copyHeap l L σ2 (i := p1) (j := p1 + 1) (by omega) (by omega)) q_701 q_703 qs_23 q_10 q_704 yd_X8_copyHeap rfl ⟨⟨rfl, rfl⟩, ⟨(Nat.le_of_ble_eq_true rfl), (Nat.le_of_ble_eq_true rfl)⟩, Nat.le_refl _, Nat.le_refl _⟩ rfl (Nat.le_of_ble_eq_true rfl) hl.1 dX8_putInOrder_69 (fun H locs h => ?_)
                refine lv_iinc (v := (nI p1)) (lv' := [(2, .int (nI p1)), (1, .int (nI (k0 + 1))), (0, .ref (ad L 0))]) hx hb dX8_putInOrder_72 hl (k := 0) rfl (iinc_m1 _) (by decide) rfl (fun ls hl => ?_)
                refine lv_goto (tgt := 21) hx hb dX8_putInOrder_75 (by decide) ?_
                exact ih_21 p1 (swp hd0 B p1 (p1 + 1)) (put8 σ2 (p1 + 1) (hp8 σ2 p1)) (by omega) (by rw [swp_len]; exact hB) (fun y hy => hBG y ((swp_perm B p1 (by omega)).mem_iff.mp hy)) (hole_next hB (by omega) hx9 hh).1 (hole_next hB (by omega) hx9 hh).2 (by rw [put8_o (by omega) (by omega) (by omega) (by omega)]; exact hm2) (hO2.tr Ot.put) (by rw [hs, sift, if_pos (g9.mpr (Int32.not_le.mp c_61))]) (by omega) _ _ _ h (lv_sub hl [0, 1, 2] rfl)
        exact LP_21 _ (k0 + 1) (oSort A k0) (put8 σ1 A.length (hp8 σ1 (k0 + 1))) (by omega) (oSort_len k0) (fun y hy => hG y (hPm.mem_iff.mp hy)) (by rw [hp8_s]; exact hL.2 _ (by rw [oSort_len]; omega)) (fun i hi _ => by rw [hp8_n (by omega)]; exact hL.2 i (by rw [oSort_len]; omega)) (by rw [put8_o (by omega) (by omega) (by omega) (by omega)]; exact hm1) (hO.tr Ot.put) rfl (Nat.lt_succ_self _) _ _ _ h (lv_sub hl [0, 1, 2] rfl)
  exact LP_2 _ 0 σ (by omega) hA Ot.rf (Nat.lt_succ_self _) _ _ _ h (lv_sub hl [0, 1] rfl)

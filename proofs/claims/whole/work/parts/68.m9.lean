abbrev rX8_aheadOf : Room := { frames := 2, cells := 0, slots := 0, locals := 45 }
theorem yd_X8_aheadOf : ydV yX8_aheadOf RX8 2 := ⟨rfl, by decide +kernel, by decide +kernel, by decide +kernel⟩
set_option maxHeartbeats 4000000 in
set_option maxRecDepth 100000 in
theorem c_X8_aheadOf (l : Launch) (L : Lay) (σ : Me) {X : SS} {d : Nat} (hS : MS (σ 1) X) (hd : d < 3) {n : Nat} (hn : n ≤ (X.2.2 d).1.length) (h2 : (X.2.2 d).1.length ≤ 200) : Mf8 l L yX8_aheadOf (Cond.code yX8_aheadOf cX8_aheadOf 5 (some FieldType.int) :: qA) rX8_aheadOf [.ref (ad L 0), .int (nI d), .int (nI n)] σ (some (.int (isum ((X.2.2 d).1.map h_w) n))) σ := by
  refine Mf8.ofW (by decide) (Nat.le_of_ble_eq_true rfl) ?_
  intro p e s m args below meth c ls post hp hI S hr hlk hK h hl
  have hx := S.1
  have hb := S.2.1
  have hl : lv_has ls 5 [(0, .ref (ad L 0)), (1, .int (nI d)), (2, .int (nI n))] := hl
  obtain ⟨m1, m2, m3, m4, m5, m6, m7⟩ := hS.2.2 d hd
  refine lv_iconst (v := (nI 0)) hx hb dX8_aheadOf_0 (by decide) ?_
  refine cv_i (show (nI 0 : Int32) = isum ((X.2.2 d).1.map h_w) 0 from (by show nI 0 = 0; decide +kernel)) ?_
  refine lv_istore_n (lv' := [(3, .int (isum ((X.2.2 d).1.map h_w) 0)), (0, .ref (ad L 0)), (1, .int (nI d)), (2, .int (nI n))]) hx hb dX8_aheadOf_1 rfl hl (by decide) rfl (fun ls hl => ?_)
  refine lv_iconst (v := (nI 0)) hx hb dX8_aheadOf_2 (by decide) ?_
  refine lv_istore (lv' := [(4, .int (nI 0)), (3, .int (isum ((X.2.2 d).1.map h_w) 0)), (0, .ref (ad L 0)), (1, .int (nI d)), (2, .int (nI n))]) hx hb dX8_aheadOf_3 hl (by decide) rfl (fun ls hl => ?_)
  have LP_5 : ∀ (n_5 : Nat) (j : Nat), (j ≤ n) → n - j < n_5 → ∀ (H : Heap) (locs : List Loc) (ls : Array Slot), Hd8 L s.heap H σ locs → lv_has ls 5 [(4, .int (nI j)), (3, .int (isum ((X.2.2 d).1.map h_w) j)), (2, .int (nI n)), (1, .int (nI d)), (0, .ref (ad L 0))] → W p l e rX8_aheadOf s m args below meth c H locs 0 0 (MQ below (Qg post (bs8 L) (Aw8 L)) args s 0 0 (Aw8 L)) (F0 m 5 ls []) := by
    intro n_5
    induction n_5 with
    | zero => intro j; intros; omega
    | succ n_5 ih_5 =>
      intro j hj hm_5 H locs ls h hl
      refine lv_iload hx hb dX8_aheadOf_5 (lv_at hl 0 rfl) ?_
      refine lv_iload_n hx hb dX8_aheadOf_7 rfl (lv_at hl 2 rfl) ?_
      refine b_icmp_ge (tgt := 28) hx hb dX8_aheadOf_8 (by decide) (by omega) (by omega) (fun c_8 => ?_) (fun c_8 => ?_)
      · have e4 : j = n := by omega
        refine lv_iload_n hx hb dX8_aheadOf_28 rfl (lv_at hl 1 rfl) ?_
        exact e_i8 S hK h hr hlk dX8_aheadOf_29 (by rw [e4]; exact hp)
      · refine lv_iload_n hx hb dX8_aheadOf_11 rfl (lv_at hl 1 rfl) ?_
        refine lv_aload_n hx hb dX8_aheadOf_12 rfl (lv_at hl 4 rfl) ?_
        refine lv_iload_n hx hb dX8_aheadOf_13 rfl (lv_at hl 3 rfl) ?_
        refine lv_iload hx hb dX8_aheadOf_14 (lv_at hl 0 rfl) ?_
        refine lv_iconst (v := (nI 0)) hx hb dX8_aheadOf_16 (by decide) ?_
        refine q_V18 S hI hK h [.int (nI d), .int (nI j), .int (nI 0)] (c_X8_heapPart l L σ (d := d) (j := j) (q := 0) (by omega)) q_685 q_687 qs_19 q_10 q_688 yd_X8_heapPart rfl ⟨⟨rfl, rfl⟩, ⟨(Nat.le_of_ble_eq_true rfl), (Nat.le_of_ble_eq_true rfl)⟩, Nat.le_refl _, Nat.le_refl _⟩ rfl (Nat.le_of_ble_eq_true rfl) hl.1 dX8_aheadOf_17 (fun H locs h => ?_)
        refine cv_i (show (σ 1 (2 + 1024 * d + (4 + 4 * j + 0)) : Int32) = h_w ((X.2.2 d).1.getD j hd0) from (congrArg h_w (m5 j (by omega)))) ?_
        refine lv_iadd hx hb dX8_aheadOf_20 ?_
        refine cv_i (show ((isum ((X.2.2 d).1.map h_w) j) + (h_w ((X.2.2 d).1.getD j hd0)) : Int32) = isum ((X.2.2 d).1.map h_w) (j + 1) from (by show _ = isum _ j + ((X.2.2 d).1.map h_w).getD j (h_w hd0); rw [getD_map])) ?_
        refine lv_istore_n (lv' := [(3, .int (isum ((X.2.2 d).1.map h_w) (j + 1))), (4, .int (nI j)), (2, .int (nI n)), (1, .int (nI d)), (0, .ref (ad L 0))]) hx hb dX8_aheadOf_21 rfl hl (by decide) rfl (fun ls hl => ?_)
        refine lv_iinc (v := (nI (j + 1))) (lv' := [(4, .int (nI (j + 1))), (3, .int (isum ((X.2.2 d).1.map h_w) (j + 1))), (2, .int (nI n)), (1, .int (nI d)), (0, .ref (ad L 0))]) hx hb dX8_aheadOf_22 hl (k := 1) rfl (iinc_1 _) (by decide) rfl (fun ls hl => ?_)
        refine lv_goto (tgt := 5) hx hb dX8_aheadOf_25 (by decide) ?_
        exact ih_5 (j + 1) (by omega) (by omega) _ _ _ h (lv_sub hl [0, 1, 2, 3, 4] rfl)
  exact LP_5 _ 0 (by omega) (Nat.lt_succ_self _) _ _ _ h (lv_sub hl [0, 1, 4, 3, 2] rfl)

abbrev rX8_sumOf : Room := { frames := 1, cells := 0, slots := 0, locals := 22 }
theorem yd_X8_sumOf : ydV yX8_sumOf RX8 1 := ⟨rfl, by decide +kernel, by decide +kernel, by decide +kernel⟩
set_option maxHeartbeats 4000000 in
set_option maxRecDepth 100000 in
theorem c_X8_sumOf (l : Launch) (L : Lay) (σ : Me) {X : SS} {d : Nat} (hS : MS (σ 1) X) (hd : d < 3) (h2 : (X.2.2 d).2.2.1.length ≤ 200) : Mf8 l L yX8_sumOf (Cond.code yX8_sumOf cX8_sumOf 4 (some FieldType.int) :: qA) rX8_sumOf [.ref (ad L 0), .int (nI d)] σ (some (.int (isum (X.2.2 d).2.2.1 (X.2.2 d).2.2.1.length))) σ := by
  refine Mf8.ofW (by decide) (Nat.le_of_ble_eq_true rfl) ?_
  intro p e s m args below meth c ls post hp hI S hr hlk hK h hl
  have hx := S.1
  have hb := S.2.1
  have hl : lv_has ls 4 [(0, .ref (ad L 0)), (1, .int (nI d))] := hl
  obtain ⟨m1, m2, m3, m4, m5, m6, m7⟩ := hS.2.2 d hd
  refine lv_iconst (v := (nI 0)) hx hb dX8_sumOf_0 (by decide) ?_
  refine cv_i (show (nI 0 : Int32) = isum (X.2.2 d).2.2.1 0 from (by show nI 0 = 0; decide +kernel)) ?_
  refine lv_istore_n (lv' := [(2, .int (isum (X.2.2 d).2.2.1 0)), (0, .ref (ad L 0)), (1, .int (nI d))]) hx hb dX8_sumOf_1 rfl hl (by decide) rfl (fun ls hl => ?_)
  refine lv_iconst (v := (nI 0)) hx hb dX8_sumOf_2 (by decide) ?_
  refine lv_istore_n (lv' := [(3, .int (nI 0)), (2, .int (isum (X.2.2 d).2.2.1 0)), (0, .ref (ad L 0)), (1, .int (nI d))]) hx hb dX8_sumOf_3 rfl hl (by decide) rfl (fun ls hl => ?_)
  have LP_4 : ∀ (n_4 : Nat) (j : Nat), (j ≤ (X.2.2 d).2.2.1.length) → (X.2.2 d).2.2.1.length - j < n_4 → ∀ (H : Heap) (locs : List Loc) (ls : Array Slot), Hd8 L s.heap H σ locs → lv_has ls 4 [(3, .int (nI j)), (2, .int (isum (X.2.2 d).2.2.1 j)), (1, .int (nI d)), (0, .ref (ad L 0))] → W p l e rX8_sumOf s m args below meth c H locs 0 0 (MQ below (Qg post (bs8 L) (Aw8 L)) args s 0 0 (Aw8 L)) (F0 m 4 ls []) := by
    intro n_4
    induction n_4 with
    | zero => intro j; intros; omega
    | succ n_4 ih_4 =>
      intro j hj hm_4 H locs ls h hl
      refine lv_iload_n hx hb dX8_sumOf_4 rfl (lv_at hl 0 rfl) ?_
      refine lv_aload_n hx hb dX8_sumOf_5 rfl (lv_at hl 3 rfl) ?_
      refine lv_iload_n hx hb dX8_sumOf_6 rfl (lv_at hl 2 rfl) ?_
      refine lv_iconst (v := (nI 2)) hx hb dX8_sumOf_7 (by decide) ?_
      refine q_V18 S hI hK h [.int (nI d), .int (nI 2)] (c_X8_part l L σ (d := d) (q := 2) (by omega)) q_657 q_659 qs_13 q_10 q_660 yd_X8_part rfl ⟨⟨rfl, rfl⟩, ⟨(Nat.le_of_ble_eq_true rfl), (Nat.le_of_ble_eq_true rfl)⟩, Nat.le_refl _, Nat.le_refl _⟩ rfl (Nat.le_of_ble_eq_true rfl) hl.1 dX8_sumOf_8 (fun H locs h => ?_)
      refine cv_i (show (σ 1 (2 + 1024 * d + 2) : Int32) = nI ((X.2.2 d).2.2.1.length) from m3) ?_
      refine b_icmp_ge (tgt := 33) hx hb dX8_sumOf_11 (by decide) (by omega) (by omega) (fun c_11 => ?_) (fun c_11 => ?_)
      · have e4 : j = (X.2.2 d).2.2.1.length := by omega
        refine lv_iload_n hx hb dX8_sumOf_33 rfl (lv_at hl 1 rfl) ?_
        exact e_i8 S hK h hr hlk dX8_sumOf_34 (by rw [e4]; exact hp)
      · refine lv_iload_n hx hb dX8_sumOf_14 rfl (lv_at hl 1 rfl) ?_
        refine lv_aload_n hx hb dX8_sumOf_15 rfl (lv_at hl 3 rfl) ?_
        refine lv_iload_n hx hb dX8_sumOf_16 rfl (lv_at hl 2 rfl) ?_
        refine lv_sipush (v := (nI 824)) hx hb dX8_sumOf_17 (by decide) ?_
        refine lv_iload_n hx hb dX8_sumOf_20 rfl (lv_at hl 0 rfl) ?_
        refine a_iadd hx hb dX8_sumOf_21 ?_
        refine q_V18 S hI hK h [.int (nI d), .int (nI (824 + j))] (c_X8_part l L σ (d := d) (q := 824 + j) (by omega)) q_657 q_659 qs_13 q_10 q_660 yd_X8_part rfl ⟨⟨rfl, rfl⟩, ⟨(Nat.le_of_ble_eq_true rfl), (Nat.le_of_ble_eq_true rfl)⟩, Nat.le_refl _, Nat.le_refl _⟩ rfl (Nat.le_of_ble_eq_true rfl) hl.1 dX8_sumOf_22 (fun H locs h => ?_)
        refine cv_i (show (σ 1 (2 + 1024 * d + (824 + j)) : Int32) = (X.2.2 d).2.2.1.getD j 0 from (m7 j c_11)) ?_
        refine lv_iadd hx hb dX8_sumOf_25 ?_
        refine cv_i (show ((isum (X.2.2 d).2.2.1 j) + ((X.2.2 d).2.2.1.getD j 0) : Int32) = isum (X.2.2 d).2.2.1 (j + 1) from rfl) ?_
        refine lv_istore_n (lv' := [(2, .int (isum (X.2.2 d).2.2.1 (j + 1))), (3, .int (nI j)), (1, .int (nI d)), (0, .ref (ad L 0))]) hx hb dX8_sumOf_26 rfl hl (by decide) rfl (fun ls hl => ?_)
        refine lv_iinc (v := (nI (j + 1))) (lv' := [(3, .int (nI (j + 1))), (2, .int (isum (X.2.2 d).2.2.1 (j + 1))), (1, .int (nI d)), (0, .ref (ad L 0))]) hx hb dX8_sumOf_27 hl (k := 1) rfl (iinc_1 _) (by decide) rfl (fun ls hl => ?_)
        refine lv_goto (tgt := 4) hx hb dX8_sumOf_30 (by decide) ?_
        exact ih_4 (j + 1) (by omega) (by omega) _ _ _ h (lv_sub hl [0, 1, 2, 3] rfl)
  exact LP_4 _ 0 (by omega) (Nat.lt_succ_self _) _ _ _ h (lv_sub hl [0, 1, 3, 2] rfl)

abbrev rX8_greatestWeight : Room := { frames := 2, cells := 0, slots := 0, locals := 45 }
theorem yd_X8_greatestWeight : ydV yX8_greatestWeight RX8 1 := ⟨rfl, by decide +kernel, by decide +kernel, by decide +kernel⟩
set_option maxHeartbeats 4000000 in
set_option maxRecDepth 100000 in
theorem c_X8_greatestWeight (l : Launch) (L : Lay) (σ : Me) {X : SS} {d : Nat} (hS : MS (σ 1) X) (hd : d < 3) (h2 : (X.2.2 d).1.length ≤ 200) : Mf8 l L yX8_greatestWeight (Cond.code yX8_greatestWeight cX8_greatestWeight 4 (some FieldType.int) :: qA) rX8_greatestWeight [.ref (ad L 0), .int (nI d)] σ (some (.int (gwS (X.2.2 d).1 (X.2.2 d).1.length))) σ := by
  refine Mf8.ofW (by decide) (Nat.le_of_ble_eq_true rfl) ?_
  intro p e s m args below meth c ls post hp hI S hr hlk hK h hl
  have hx := S.1
  have hb := S.2.1
  have hl : lv_has ls 4 [(0, .ref (ad L 0)), (1, .int (nI d))] := hl
  obtain ⟨m1, m2, m3, m4, m5, m6, m7⟩ := hS.2.2 d hd
  refine lv_ldc (v := (-1000004 : Int32)) hx hb S.2.2.2.1 (S.2.2.2.2 _ q_741) dX8_greatestWeight_0 ?_
  refine cv_i (show ((-1000004 : Int32) : Int32) = gwS (X.2.2 d).1 0 from rfl) ?_
  refine lv_istore_n (lv' := [(2, .int (gwS (X.2.2 d).1 0)), (0, .ref (ad L 0)), (1, .int (nI d))]) hx hb dX8_greatestWeight_2 rfl hl (by decide) rfl (fun ls hl => ?_)
  refine lv_iconst (v := (nI 0)) hx hb dX8_greatestWeight_3 (by decide) ?_
  refine lv_istore_n (lv' := [(3, .int (nI 0)), (2, .int (gwS (X.2.2 d).1 0)), (0, .ref (ad L 0)), (1, .int (nI d))]) hx hb dX8_greatestWeight_4 rfl hl (by decide) rfl (fun ls hl => ?_)
  have LP_5 : ∀ (n_5 : Nat) (j : Nat), (j ≤ (X.2.2 d).1.length) → (X.2.2 d).1.length - j < n_5 → ∀ (H : Heap) (locs : List Loc) (ls : Array Slot), Hd8 L s.heap H σ locs → lv_has ls 4 [(3, .int (nI j)), (2, .int (gwS (X.2.2 d).1 j)), (1, .int (nI d)), (0, .ref (ad L 0))] → W p l e rX8_greatestWeight s m args below meth c H locs 0 0 (MQ below (Qg post (bs8 L) (Aw8 L)) args s 0 0 (Aw8 L)) (F0 m 5 ls []) := by
    intro n_5
    induction n_5 with
    | zero => intro j; intros; omega
    | succ n_5 ih_5 =>
      intro j hj hm_5 H locs ls h hl
      refine lv_iload_n hx hb dX8_greatestWeight_5 rfl (lv_at hl 0 rfl) ?_
      refine lv_aload_n hx hb dX8_greatestWeight_6 rfl (lv_at hl 3 rfl) ?_
      refine lv_iload_n hx hb dX8_greatestWeight_7 rfl (lv_at hl 2 rfl) ?_
      refine lv_iconst (v := (nI 0)) hx hb dX8_greatestWeight_8 (by decide) ?_
      refine q_V18 S hI hK h [.int (nI d), .int (nI 0)] (c_X8_part l L σ (d := d) (q := 0) (by omega)) q_657 q_659 qs_13 q_10 q_660 yd_X8_part rfl ⟨⟨rfl, rfl⟩, ⟨(Nat.le_of_ble_eq_true rfl), (Nat.le_of_ble_eq_true rfl)⟩, Nat.le_refl _, Nat.le_refl _⟩ rfl (Nat.le_of_ble_eq_true rfl) hl.1 dX8_greatestWeight_9 (fun H locs h => ?_)
      refine cv_i (show (σ 1 (2 + 1024 * d + 0) : Int32) = nI ((X.2.2 d).1.length) from m1) ?_
      refine b_icmp_ge (tgt := 44) hx hb dX8_greatestWeight_12 (by decide) (by omega) (by omega) (fun c_12 => ?_) (fun c_12 => ?_)
      · have e4 : j = (X.2.2 d).1.length := by omega
        refine lv_iload_n hx hb dX8_greatestWeight_44 rfl (lv_at hl 1 rfl) ?_
        exact e_i8 S hK h hr hlk dX8_greatestWeight_45 (by rw [e4]; exact hp)
      · refine lv_aload_n hx hb dX8_greatestWeight_15 rfl (lv_at hl 3 rfl) ?_
        refine lv_iload_n hx hb dX8_greatestWeight_16 rfl (lv_at hl 2 rfl) ?_
        refine lv_iload_n hx hb dX8_greatestWeight_17 rfl (lv_at hl 0 rfl) ?_
        refine lv_iconst (v := (nI 0)) hx hb dX8_greatestWeight_18 (by decide) ?_
        refine q_V18 S hI hK h [.int (nI d), .int (nI j), .int (nI 0)] (c_X8_heapPart l L σ (d := d) (j := j) (q := 0) (by omega)) q_685 q_687 qs_19 q_10 q_688 yd_X8_heapPart rfl ⟨⟨rfl, rfl⟩, ⟨(Nat.le_of_ble_eq_true rfl), (Nat.le_of_ble_eq_true rfl)⟩, Nat.le_refl _, Nat.le_refl _⟩ rfl (Nat.le_of_ble_eq_true rfl) hl.1 dX8_greatestWeight_19 (fun H locs h => ?_)
        refine cv_i (show (σ 1 (2 + 1024 * d + (4 + 4 * j + 0)) : Int32) = h_w ((X.2.2 d).1.getD j hd0) from (congrArg h_w (m5 j c_12))) ?_
        refine lv_iload_n hx hb dX8_greatestWeight_22 rfl (lv_at hl 1 rfl) ?_
        refine lv_icmp_le (tgt := 36) hx hb dX8_greatestWeight_23 (by decide) (fun c_23 => ?_) (fun c_23 => ?_)
        · refine lv_iload_n hx hb dX8_greatestWeight_36 rfl (lv_at hl 1 rfl) ?_
          refine cv_i (show (gwS (X.2.2 d).1 j : Int32) = gwS (X.2.2 d).1 (j + 1) from (by show _ = (if gwS _ j < h_w (List.getD _ j hd0) then h_w (List.getD _ j hd0) else gwS _ j); first | rw [if_pos (Int32.not_le.mp c_23)] | rw [if_neg (Int32.not_lt.mpr c_23)])) ?_
          refine lv_istore_n (lv' := [(2, .int (gwS (X.2.2 d).1 (j + 1))), (3, .int (nI j)), (1, .int (nI d)), (0, .ref (ad L 0))]) hx hb dX8_greatestWeight_37 rfl hl (by decide) rfl (fun ls hl => ?_)
          refine lv_iinc (v := (nI (j + 1))) (lv' := [(3, .int (nI (j + 1))), (2, .int (gwS (X.2.2 d).1 (j + 1))), (1, .int (nI d)), (0, .ref (ad L 0))]) hx hb dX8_greatestWeight_38 hl (k := 1) rfl (iinc_1 _) (by decide) rfl (fun ls hl => ?_)
          refine lv_goto (tgt := 5) hx hb dX8_greatestWeight_41 (by decide) ?_
          exact ih_5 (j + 1) (by omega) (by omega) _ _ _ h (lv_sub hl [0, 1, 2, 3] rfl)
        · refine lv_aload_n hx hb dX8_greatestWeight_26 rfl (lv_at hl 3 rfl) ?_
          refine lv_iload_n hx hb dX8_greatestWeight_27 rfl (lv_at hl 2 rfl) ?_
          refine lv_iload_n hx hb dX8_greatestWeight_28 rfl (lv_at hl 0 rfl) ?_
          refine lv_iconst (v := (nI 0)) hx hb dX8_greatestWeight_29 (by decide) ?_
          refine q_V18 S hI hK h [.int (nI d), .int (nI j), .int (nI 0)] (c_X8_heapPart l L σ (d := d) (j := j) (q := 0) (by omega)) q_685 q_687 qs_19 q_10 q_688 yd_X8_heapPart rfl ⟨⟨rfl, rfl⟩, ⟨(Nat.le_of_ble_eq_true rfl), (Nat.le_of_ble_eq_true rfl)⟩, Nat.le_refl _, Nat.le_refl _⟩ rfl (Nat.le_of_ble_eq_true rfl) hl.1 dX8_greatestWeight_30 (fun H locs h => ?_)
          refine cv_i (show (σ 1 (2 + 1024 * d + (4 + 4 * j + 0)) : Int32) = h_w ((X.2.2 d).1.getD j hd0) from (congrArg h_w (m5 j c_12))) ?_
          refine lv_goto (tgt := 37) hx hb dX8_greatestWeight_33 (by decide) ?_
          refine cv_i (show (h_w ((X.2.2 d).1.getD j hd0) : Int32) = gwS (X.2.2 d).1 (j + 1) from (by show _ = (if gwS _ j < h_w (List.getD _ j hd0) then h_w (List.getD _ j hd0) else gwS _ j); first | rw [if_pos (Int32.not_le.mp c_23)] | rw [if_neg (Int32.not_lt.mpr c_23)])) ?_
          refine lv_istore_n (lv' := [(2, .int (gwS (X.2.2 d).1 (j + 1))), (3, .int (nI j)), (1, .int (nI d)), (0, .ref (ad L 0))]) hx hb dX8_greatestWeight_37 rfl hl (by decide) rfl (fun ls hl => ?_)
          refine lv_iinc (v := (nI (j + 1))) (lv' := [(3, .int (nI (j + 1))), (2, .int (gwS (X.2.2 d).1 (j + 1))), (1, .int (nI d)), (0, .ref (ad L 0))]) hx hb dX8_greatestWeight_38 hl (k := 1) rfl (iinc_1 _) (by decide) rfl (fun ls hl => ?_)
          refine lv_goto (tgt := 5) hx hb dX8_greatestWeight_41 (by decide) ?_
          exact ih_5 (j + 1) (by omega) (by omega) _ _ _ h (lv_sub hl [0, 1, 2, 3] rfl)
  exact LP_5 _ 0 (by omega) (Nat.lt_succ_self _) _ _ _ h (lv_sub hl [0, 1, 3, 2] rfl)

abbrev rX8_putValuesInOrder : Room := { frames := 1, cells := 0, slots := 0, locals := 22 }
theorem yd_X8_putValuesInOrder : ydV yX8_putValuesInOrder RX8 1 := ⟨rfl, by decide +kernel, by decide +kernel, by decide +kernel⟩
set_option maxHeartbeats 4000000 in
set_option maxRecDepth 100000 in
theorem c_X8_putValuesInOrder (l : Launch) (L : Lay) (σ : Me) {X : SS} {d : Nat} (hS : MS (σ 1) X) (hd : d < 3) (h2 : (X.2.2 d).2.2.1.length ≤ 200) : Mg8 l L yX8_putValuesInOrder (Cond.code yX8_putValuesInOrder cX8_putValuesInOrder 5 none :: qA) rX8_putValuesInOrder [.ref (ad L 0), .int (nI d)] σ (fun r u => r = none ∧ OV u (srt (X.2.2 d).2.2.1) ∧ ∀ k, k ≠ 8 → u k = σ k) := by
  refine Mr8_ofW (by decide) (Nat.le_of_ble_eq_true rfl) ?_
  intro p e s m args below meth c ls post hp hI S hr hlk hK h hl
  have hx := S.1
  have hb := S.2.1
  have hl : lv_has ls 5 [(0, .ref (ad L 0)), (1, .int (nI d))] := hl
  obtain ⟨m1, m2, m3, m4, m5, m6, m7⟩ := hS.2.2 d hd
  refine lv_iconst (v := (nI 0)) hx hb dX8_putValuesInOrder_0 (by decide) ?_
  refine lv_istore_n (lv' := [(2, .int (nI 0)), (0, .ref (ad L 0)), (1, .int (nI d))]) hx hb dX8_putValuesInOrder_1 rfl hl (by decide) rfl (fun ls hl => ?_)
  have LP_2 : ∀ (n_2 : Nat) (j : Nat) (σ1 : Me), (j ≤ (X.2.2 d).2.2.1.length) → (OV σ1 (srt ((X.2.2 d).2.2.1.take j))) → (∀ k, k ≠ 8 → σ1 k = σ k) → (X.2.2 d).2.2.1.length - j < n_2 → ∀ (H : Heap) (locs : List Loc) (ls : Array Slot), Hd8 L s.heap H σ1 locs → lv_has ls 5 [(2, .int (nI j)), (1, .int (nI d)), (0, .ref (ad L 0))] → W p l e rX8_putValuesInOrder s m args below meth c H locs 0 0 (MQ below (Qg post (bs8 L) (Aw8 L)) args s 0 0 (Aw8 L)) (F0 m 2 ls []) := by
    intro n_2
    induction n_2 with
    | zero => intro j σ1; intros; omega
    | succ n_2 ih_2 =>
      intro j σ1 hj hO ho9 hm_2 H locs ls h hl
      have hsl : (srt ((X.2.2 d).2.2.1.take j)).length = j := by rw [srt_len, List.length_take]; omega
      refine lv_iload_n hx hb dX8_putValuesInOrder_2 rfl (lv_at hl 0 rfl) ?_
      refine lv_aload_n hx hb dX8_putValuesInOrder_3 rfl (lv_at hl 2 rfl) ?_
      refine lv_iload_n hx hb dX8_putValuesInOrder_4 rfl (lv_at hl 1 rfl) ?_
      refine lv_iconst (v := (nI 2)) hx hb dX8_putValuesInOrder_5 (by decide) ?_
      refine q_V18 S hI hK h [.int (nI d), .int (nI 2)] (c_X8_part l L σ1 (d := d) (q := 2) (by omega)) q_657 q_659 qs_13 q_10 q_660 yd_X8_part rfl ⟨⟨rfl, rfl⟩, ⟨(Nat.le_of_ble_eq_true rfl), (Nat.le_of_ble_eq_true rfl)⟩, Nat.le_refl _, Nat.le_refl _⟩ rfl (Nat.le_of_ble_eq_true rfl) hl.1 dX8_putValuesInOrder_6 (fun H locs h => ?_)
      refine cv_i (show (σ1 1 (2 + 1024 * d + 2) : Int32) = nI ((X.2.2 d).2.2.1.length) from (by rw [ho9 1 (by omega)]; exact m3)) ?_
      refine b_icmp_ge (tgt := 80) hx hb dX8_putValuesInOrder_9 (by decide) (by omega) (by omega) (fun c_9 => ?_) (fun c_9 => ?_)
      · have e4 : j = (X.2.2 d).2.2.1.length := by omega
        exact e_v8 S hK h hr hlk dX8_putValuesInOrder_80 (hp _ _ ⟨rfl, by rw [e4, List.take_length] at hO; exact hO, ho9⟩)
      · refine lv_aload_n hx hb dX8_putValuesInOrder_12 rfl (lv_at hl 2 rfl) ?_
        refine lv_iload_n hx hb dX8_putValuesInOrder_13 rfl (lv_at hl 1 rfl) ?_
        refine lv_sipush (v := (nI 824)) hx hb dX8_putValuesInOrder_14 (by decide) ?_
        refine lv_iload_n hx hb dX8_putValuesInOrder_17 rfl (lv_at hl 0 rfl) ?_
        refine a_iadd hx hb dX8_putValuesInOrder_18 ?_
        refine q_V18 S hI hK h [.int (nI d), .int (nI (824 + j))] (c_X8_part l L σ1 (d := d) (q := 824 + j) (by omega)) q_657 q_659 qs_13 q_10 q_660 yd_X8_part rfl ⟨⟨rfl, rfl⟩, ⟨(Nat.le_of_ble_eq_true rfl), (Nat.le_of_ble_eq_true rfl)⟩, Nat.le_refl _, Nat.le_refl _⟩ rfl (Nat.le_of_ble_eq_true rfl) hl.1 dX8_putValuesInOrder_19 (fun H locs h => ?_)
        refine cv_i (show (σ1 1 (2 + 1024 * d + (824 + j)) : Int32) = (X.2.2 d).2.2.1.getD j 0 from (by rw [ho9 1 (by omega)]; exact m7 j c_9)) ?_
        refine lv_istore_n (lv' := [(3, .int ((X.2.2 d).2.2.1.getD j 0)), (2, .int (nI j)), (1, .int (nI d)), (0, .ref (ad L 0))]) hx hb dX8_putValuesInOrder_22 rfl hl (by decide) rfl (fun ls hl => ?_)
        refine lv_iload_n hx hb dX8_putValuesInOrder_23 rfl (lv_at hl 1 rfl) ?_
        refine lv_istore (lv' := [(4, .int (nI j)), (3, .int ((X.2.2 d).2.2.1.getD j 0)), (2, .int (nI j)), (1, .int (nI d)), (0, .ref (ad L 0))]) hx hb dX8_putValuesInOrder_24 hl (by decide) rfl (fun ls hl => ?_)
        have LP_26 : ∀ (n_26 : Nat) (p0 : Nat) (B : List Int32) (σ2 : Me), (p0 ≤ j) → (B.length = j + 1) → ((X.2.2 d).2.2.1.getD j 0 = B.getD p0 0) → (∀ i, i < j + 1 → i ≠ p0 → σ2 8 i = B.getD i 0) → (∀ k, k ≠ 8 → σ2 k = σ k) → (ins (srt ((X.2.2 d).2.2.1.take j)) ((X.2.2 d).2.2.1.getD j 0) = sift 0 gtI p0 B) → p0 < n_26 → ∀ (H : Heap) (locs : List Loc) (ls : Array Slot), Hd8 L s.heap H σ2 locs → lv_has ls 5 [(4, .int (nI p0)), (3, .int ((X.2.2 d).2.2.1.getD j 0)), (2, .int (nI j)), (1, .int (nI d)), (0, .ref (ad L 0))] → W p l e rX8_putValuesInOrder s m args below meth c H locs 0 0 (MQ below (Qg post (bs8 L) (Aw8 L)) args s 0 0 (Aw8 L)) (F0 m 26 ls []) := by
          intro n_26
          induction n_26 with
          | zero => intro p0 B σ2; intros; omega
          | succ n_26 ih_26 =>
            intro p0 B σ2 hp0 hB hv9 hh ho2 hs hm_26 H locs ls h hl
            refine lv_iload hx hb dX8_putValuesInOrder_26 (lv_at hl 0 rfl) ?_
            refine b_if_le (tgt := 66) hx hb dX8_putValuesInOrder_28 (by decide) (by omega) (fun c_28 => ?_) (fun c_28 => ?_)
            · have hs2 : ins (srt ((X.2.2 d).2.2.1.take j)) ((X.2.2 d).2.2.1.getD j 0) = B := by rw [hs, c_28]; rfl
              refine lv_aload_n hx hb dX8_putValuesInOrder_66 rfl (lv_at hl 4 rfl) ?_
              refine g8 (v := (.ref (ad L 8))) S hK h 10 (by decide) rfl rfl q_606 dX8_putValuesInOrder_67 ?_
              refine lv_iload hx hb dX8_putValuesInOrder_70 (lv_at hl 0 rfl) ?_
              refine lv_iload_n hx hb dX8_putValuesInOrder_72 rfl (lv_at hl 1 rfl) ?_
              refine p8_el (n := 200) S hI hK h (by decide) rfl (by omega) dX8_putValuesInOrder_73 (fun H locs h => ?_)
              refine lv_iinc (v := (nI (j + 1))) (lv' := [(2, .int (nI (j + 1))), (4, .int (nI p0)), (3, .int ((X.2.2 d).2.2.1.getD j 0)), (1, .int (nI d)), (0, .ref (ad L 0))]) hx hb dX8_putValuesInOrder_74 hl (k := 2) rfl (iinc_1 _) (by decide) rfl (fun ls hl => ?_)
              refine lv_goto (tgt := 2) hx hb dX8_putValuesInOrder_77 (by decide) ?_
              exact ih_2 (j + 1) (mu σ2 8 p0 ((X.2.2 d).2.2.1.getD j 0)) (by omega) (by rw [srt_take c_9]; exact hs2 ▸ OV_fill hB hv9 hh) (fun k hk => by rw [mu_r hk]; exact ho2 k hk) (by omega) _ _ _ h (lv_sub hl [0, 3, 4] rfl)
            · obtain ⟨p1, rfl⟩ : ∃ z, p0 = z + 1 := ⟨p0 - 1, by omega⟩
              have e1 := hh p1 (by omega) (by omega)
              refine lv_aload_n hx hb dX8_putValuesInOrder_31 rfl (lv_at hl 4 rfl) ?_
              refine g8 (v := (.ref (ad L 8))) S hK h 10 (by decide) rfl rfl q_606 dX8_putValuesInOrder_32 ?_
              refine lv_iload hx hb dX8_putValuesInOrder_35 (lv_at hl 0 rfl) ?_
              refine lv_iconst (v := (nI 1)) hx hb dX8_putValuesInOrder_37 (by decide) ?_
              refine a_isub hx hb dX8_putValuesInOrder_38 (by omega) ?_
              refine cv_i (show (nI ((p1 + 1) - 1) : Int32) = nI p1 from (by rw [Nat.add_sub_cancel])) ?_
              refine g8_el (n := 200) S hK h (by decide) rfl (by omega) dX8_putValuesInOrder_39 ?_
              refine lv_iload_n hx hb dX8_putValuesInOrder_40 rfl (lv_at hl 1 rfl) ?_
              refine lv_icmp_le (tgt := 66) hx hb dX8_putValuesInOrder_41 (by decide) (fun c_41 => ?_) (fun c_41 => ?_)
              · have g9 : ¬ gtI (B.getD p1 0) (B.getD (p1 + 1) 0) = true := fun z => absurd (of_decide_eq_true (show decide (B.getD (p1 + 1) 0 < B.getD p1 0) = true from z)) (Int32.not_lt.mpr (by rw [← e1, ← hv9]; exact c_41))
                have hs2 : ins (srt ((X.2.2 d).2.2.1.take j)) ((X.2.2 d).2.2.1.getD j 0) = B := by rw [hs, sift, if_neg g9]
                refine lv_aload_n hx hb dX8_putValuesInOrder_66 rfl (lv_at hl 4 rfl) ?_
                refine g8 (v := (.ref (ad L 8))) S hK h 10 (by decide) rfl rfl q_606 dX8_putValuesInOrder_67 ?_
                refine lv_iload hx hb dX8_putValuesInOrder_70 (lv_at hl 0 rfl) ?_
                refine lv_iload_n hx hb dX8_putValuesInOrder_72 rfl (lv_at hl 1 rfl) ?_
                refine p8_el (n := 200) S hI hK h (by decide) rfl (by omega) dX8_putValuesInOrder_73 (fun H locs h => ?_)
                refine lv_iinc (v := (nI (j + 1))) (lv' := [(2, .int (nI (j + 1))), (4, .int (nI (p1 + 1))), (3, .int ((X.2.2 d).2.2.1.getD j 0)), (1, .int (nI d)), (0, .ref (ad L 0))]) hx hb dX8_putValuesInOrder_74 hl (k := 2) rfl (iinc_1 _) (by decide) rfl (fun ls hl => ?_)
                refine lv_goto (tgt := 2) hx hb dX8_putValuesInOrder_77 (by decide) ?_
                exact ih_2 (j + 1) (mu σ2 8 (p1 + 1) ((X.2.2 d).2.2.1.getD j 0)) (by omega) (by rw [srt_take c_9]; exact hs2 ▸ OV_fill hB hv9 hh) (fun k hk => by rw [mu_r hk]; exact ho2 k hk) (by omega) _ _ _ h (lv_sub hl [0, 3, 4] rfl)
              · have g9 : gtI (B.getD p1 0) (B.getD (p1 + 1) 0) = true := decide_eq_true (by rw [← e1, ← hv9]; exact Int32.not_le.mp c_41)
                refine lv_aload_n hx hb dX8_putValuesInOrder_44 rfl (lv_at hl 4 rfl) ?_
                refine g8 (v := (.ref (ad L 8))) S hK h 10 (by decide) rfl rfl q_606 dX8_putValuesInOrder_45 ?_
                refine lv_iload hx hb dX8_putValuesInOrder_48 (lv_at hl 0 rfl) ?_
                refine lv_aload_n hx hb dX8_putValuesInOrder_50 rfl (lv_at hl 4 rfl) ?_
                refine g8 (v := (.ref (ad L 8))) S hK h 10 (by decide) rfl rfl q_606 dX8_putValuesInOrder_51 ?_
                refine lv_iload hx hb dX8_putValuesInOrder_54 (lv_at hl 0 rfl) ?_
                refine lv_iconst (v := (nI 1)) hx hb dX8_putValuesInOrder_56 (by decide) ?_
                refine a_isub hx hb dX8_putValuesInOrder_57 (by omega) ?_
                refine cv_i (show (nI ((p1 + 1) - 1) : Int32) = nI p1 from (by rw [Nat.add_sub_cancel])) ?_
                refine g8_el (n := 200) S hK h (by decide) rfl (by omega) dX8_putValuesInOrder_58 ?_
                refine p8_el (n := 200) S hI hK h (by decide) rfl (by omega) dX8_putValuesInOrder_59 (fun H locs h => ?_)
                refine lv_iinc (v := (nI p1)) (lv' := [(4, .int (nI p1)), (3, .int ((X.2.2 d).2.2.1.getD j 0)), (2, .int (nI j)), (1, .int (nI d)), (0, .ref (ad L 0))]) hx hb dX8_putValuesInOrder_60 hl (k := 0) rfl (iinc_m1 _) (by decide) rfl (fun ls hl => ?_)
                refine lv_goto (tgt := 26) hx hb dX8_putValuesInOrder_63 (by decide) ?_
                exact ih_26 p1 (swp 0 B p1 (p1 + 1)) (mu σ2 8 (p1 + 1) (σ2 8 p1)) (by omega) (by rw [swp_len]; exact hB) (OV_next hB (by omega) hv9 hh).1 (OV_next hB (by omega) hv9 hh).2 (fun k hk => by rw [mu_r hk]; exact ho2 k hk) (by rw [hs, sift, if_pos g9]) (by omega) _ _ _ h (lv_sub hl [0, 1, 2, 3, 4] rfl)
        exact LP_26 _ j (srt ((X.2.2 d).2.2.1.take j) ++ [(X.2.2 d).2.2.1.getD j 0]) σ1 (by omega) (by rw [List.length_append, List.length_singleton, hsl]) (by have q9 := getD_snoc_l (d := (0 : Int32)) (l := srt ((X.2.2 d).2.2.1.take j)) (x := (X.2.2 d).2.2.1.getD j 0); rw [hsl] at q9; exact q9.symm) (fun i hi hij => by rw [getD_snoc (by omega)]; exact hO i (by omega)) ho9 (by rw [ins, hsl]) (Nat.lt_succ_self _) _ _ _ h (lv_sub hl [0, 1, 2, 3, 4] rfl)
  exact LP_2 _ 0 σ (by omega) (fun i hi => by rw [srt_len, List.length_take] at hi; omega) (fun k _ => rfl) (Nat.lt_succ_self _) _ _ _ h (lv_sub hl [0, 2, 1] rfl)

abbrev rX8_within : Room := { frames := 0, cells := 0, slots := 0, locals := 0 }
theorem yd_X8_within : ydV yX8_within RX8 3 := ⟨rfl, by decide +kernel, by decide +kernel, by decide +kernel⟩
set_option maxHeartbeats 4000000 in
set_option maxRecDepth 100000 in
theorem c_X8_within (l : Launch) (L : Lay) (σ : Me) (x lo hi : Int32) : Mf8 l L yX8_within (Cond.code yX8_within cX8_within 3 (some FieldType.boolean) :: qA) rX8_within [.int x, .int lo, .int hi] σ (some (.int (if lo ≤ x ∧ x ≤ hi then 1 else 0))) σ := by
  refine Mf8.ofW (by decide) (Nat.le_of_ble_eq_true rfl) ?_
  intro p e s m args below meth c ls post hp hI S hr hlk hK h hl
  have hx := S.1
  have hb := S.2.1
  have hl : lv_has ls 3 [(0, .int x), (1, .int lo), (2, .int hi)] := hl
  refine lv_iload_n hx hb dX8_within_0 rfl (lv_at hl 0 rfl) ?_
  refine lv_iload_n hx hb dX8_within_1 rfl (lv_at hl 1 rfl) ?_
  refine lv_icmp_lt (tgt := 14) hx hb dX8_within_2 (by decide) (fun c_2 => ?_) (fun c_2 => ?_)
  · rw [if_neg (fun q => Int32.not_le.mpr c_2 q.1)] at hp
    refine lv_iconst (v := (nI 0)) hx hb dX8_within_14 (by decide) ?_
    exact e_z8 S hK h hr hlk (Or.inl rfl) dX8_within_15 hp
  · refine lv_iload_n hx hb dX8_within_5 rfl (lv_at hl 0 rfl) ?_
    refine lv_iload_n hx hb dX8_within_6 rfl (lv_at hl 2 rfl) ?_
    refine lv_icmp_gt (tgt := 14) hx hb dX8_within_7 (by decide) (fun c_7 => ?_) (fun c_7 => ?_)
    · rw [if_neg (fun q => Int32.not_le.mpr c_7 q.2)] at hp
      refine lv_iconst (v := (nI 0)) hx hb dX8_within_14 (by decide) ?_
      exact e_z8 S hK h hr hlk (Or.inl rfl) dX8_within_15 hp
    · rw [if_pos ⟨Int32.not_lt.mp c_2, Int32.not_lt.mp c_7⟩] at hp
      refine lv_iconst (v := (nI 1)) hx hb dX8_within_10 (by decide) ?_
      refine lv_goto (tgt := 15) hx hb dX8_within_11 (by decide) ?_
      exact e_z8 S hK h hr hlk (Or.inr rfl) dX8_within_15 hp

abbrev rX8_isDigest : Room := { frames := 1, cells := 0, slots := 0, locals := 22 }
theorem yd_X8_isDigest : ydV yX8_isDigest RX8 1 := ⟨rfl, by decide +kernel, by decide +kernel, by decide +kernel⟩
set_option maxHeartbeats 4000000 in
set_option maxRecDepth 100000 in
theorem c_X8_isDigest (l : Launch) (L : Lay) (σ : Me) (x : Int32) : Mf8 l L yX8_isDigest (Cond.code yX8_isDigest cX8_isDigest 1 (some FieldType.boolean) :: qA) rX8_isDigest [.int x] σ (some (.int (if nI 0 ≤ x ∧ x ≤ nI 2 then 1 else 0))) σ := by
  refine Mf8.ofW (by decide) (Nat.le_of_ble_eq_true rfl) ?_
  intro p e s m args below meth c ls post hp hI S hr hlk hK h hl
  have hx := S.1
  have hb := S.2.1
  have hl : lv_has ls 1 [(0, .int x)] := hl
  refine lv_iload_n hx hb dX8_isDigest_0 rfl (lv_at hl 0 rfl) ?_
  refine lv_iconst (v := (nI 0)) hx hb dX8_isDigest_1 (by decide) ?_
  refine lv_iconst (v := (nI 2)) hx hb dX8_isDigest_2 (by decide) ?_
  refine q_S18 S hI hK h [.int x, .int (nI 0), .int (nI 2)] (c_X8_within l L σ x (nI 0) (nI 2)) q_649 q_650 q_10 q_651 yd_X8_within rfl ⟨⟨rfl, rfl⟩, ⟨(Nat.le_of_ble_eq_true rfl), (Nat.le_of_ble_eq_true rfl)⟩, Nat.le_refl _, Nat.le_refl _⟩ rfl (Nat.le_of_ble_eq_true rfl) hl.1 dX8_isDigest_3 (fun H locs h => ?_)
  exact e_z8 S hK h hr hlk (z_or _) dX8_isDigest_6 hp

abbrev rX8_part : Room := { frames := 0, cells := 0, slots := 0, locals := 0 }
theorem yd_X8_part : ydV yX8_part RX8 2 := ⟨rfl, by decide +kernel, by decide +kernel, by decide +kernel⟩
set_option maxHeartbeats 4000000 in
set_option maxRecDepth 100000 in
theorem c_X8_part (l : Launch) (L : Lay) (σ : Me) {d q : Nat} (hq : 2 + 1024 * d + q < 3074) : Mf8 l L yX8_part (Cond.code yX8_part cX8_part 3 (some FieldType.int) :: qA) rX8_part [.ref (ad L 0), .int (nI d), .int (nI q)] σ (some (.int (σ 1 (2 + 1024 * d + q)))) σ := by
  refine Mf8.ofW (by decide) (Nat.le_of_ble_eq_true rfl) ?_
  intro p e s m args below meth c ls post hp hI S hr hlk hK h hl
  have hx := S.1
  have hb := S.2.1
  have hl : lv_has ls 3 [(0, .ref (ad L 0)), (1, .int (nI d)), (2, .int (nI q))] := hl
  refine lv_aload_n hx hb dX8_part_0 rfl (lv_at hl 0 rfl) ?_
  refine g8 (v := (.ref (ad L 1))) S hK h 0 (by decide) rfl rfl q_596 dX8_part_1 ?_
  refine lv_iconst (v := (nI 2)) hx hb dX8_part_4 (by decide) ?_
  refine lv_sipush (v := (nI 1024)) hx hb dX8_part_5 (by decide) ?_
  refine lv_iload_n hx hb dX8_part_8 rfl (lv_at hl 1 rfl) ?_
  refine a_imul hx hb dX8_part_9 ?_
  refine a_iadd hx hb dX8_part_10 ?_
  refine lv_iload_n hx hb dX8_part_11 rfl (lv_at hl 2 rfl) ?_
  refine a_iadd hx hb dX8_part_12 ?_
  refine g8_el (n := 3074) S hK h (by decide) rfl (by omega) dX8_part_13 ?_
  exact e_i8 S hK h hr hlk dX8_part_14 hp

abbrev rX8_setPart : Room := { frames := 0, cells := 0, slots := 0, locals := 0 }
theorem yd_X8_setPart : ydV yX8_setPart RX8 3 := ⟨rfl, by decide +kernel, by decide +kernel, by decide +kernel⟩
set_option maxHeartbeats 4000000 in
set_option maxRecDepth 100000 in
theorem c_X8_setPart (l : Launch) (L : Lay) (σ : Me) {d q : Nat} (hq : 2 + 1024 * d + q < 3074) (v : Int32) : Mf8 l L yX8_setPart (Cond.code yX8_setPart cX8_setPart 4 none :: qA) rX8_setPart [.ref (ad L 0), .int (nI d), .int (nI q), .int v] σ none (mu σ 1 (2 + 1024 * d + q) v) := by
  refine Mf8.ofW (by decide) (Nat.le_of_ble_eq_true rfl) ?_
  intro p e s m args below meth c ls post hp hI S hr hlk hK h hl
  have hx := S.1
  have hb := S.2.1
  have hl : lv_has ls 4 [(0, .ref (ad L 0)), (1, .int (nI d)), (2, .int (nI q)), (3, .int v)] := hl
  refine lv_aload_n hx hb dX8_setPart_0 rfl (lv_at hl 0 rfl) ?_
  refine g8 (v := (.ref (ad L 1))) S hK h 0 (by decide) rfl rfl q_596 dX8_setPart_1 ?_
  refine lv_iconst (v := (nI 2)) hx hb dX8_setPart_4 (by decide) ?_
  refine lv_sipush (v := (nI 1024)) hx hb dX8_setPart_5 (by decide) ?_
  refine lv_iload_n hx hb dX8_setPart_8 rfl (lv_at hl 1 rfl) ?_
  refine a_imul hx hb dX8_setPart_9 ?_
  refine a_iadd hx hb dX8_setPart_10 ?_
  refine lv_iload_n hx hb dX8_setPart_11 rfl (lv_at hl 2 rfl) ?_
  refine a_iadd hx hb dX8_setPart_12 ?_
  refine lv_iload_n hx hb dX8_setPart_13 rfl (lv_at hl 3 rfl) ?_
  refine p8_el (n := 3074) S hI hK h (by decide) rfl (by omega) dX8_setPart_14 (fun H locs h => ?_)
  exact e_v8 S hK h hr hlk dX8_setPart_15 hp

abbrev rX8_heapPart : Room := { frames := 1, cells := 0, slots := 0, locals := 22 }
theorem yd_X8_heapPart : ydV yX8_heapPart RX8 3 := ⟨rfl, by decide +kernel, by decide +kernel, by decide +kernel⟩
set_option maxHeartbeats 4000000 in
set_option maxRecDepth 100000 in
theorem c_X8_heapPart (l : Launch) (L : Lay) (σ : Me) {d j q : Nat} (hq : 2 + 1024 * d + (4 + 4 * j + q) < 3074) : Mf8 l L yX8_heapPart (Cond.code yX8_heapPart cX8_heapPart 4 (some FieldType.int) :: qA) rX8_heapPart [.ref (ad L 0), .int (nI d), .int (nI j), .int (nI q)] σ (some (.int (σ 1 (2 + 1024 * d + (4 + 4 * j + q))))) σ := by
  refine Mf8.ofW (by decide) (Nat.le_of_ble_eq_true rfl) ?_
  intro p e s m args below meth c ls post hp hI S hr hlk hK h hl
  have hx := S.1
  have hb := S.2.1
  have hl : lv_has ls 4 [(0, .ref (ad L 0)), (1, .int (nI d)), (2, .int (nI j)), (3, .int (nI q))] := hl
  refine lv_aload_n hx hb dX8_heapPart_0 rfl (lv_at hl 0 rfl) ?_
  refine lv_iload_n hx hb dX8_heapPart_1 rfl (lv_at hl 1 rfl) ?_
  refine lv_iconst (v := (nI 4)) hx hb dX8_heapPart_2 (by decide) ?_
  refine lv_iconst (v := (nI 4)) hx hb dX8_heapPart_3 (by decide) ?_
  refine lv_iload_n hx hb dX8_heapPart_4 rfl (lv_at hl 2 rfl) ?_
  refine a_imul hx hb dX8_heapPart_5 ?_
  refine a_iadd hx hb dX8_heapPart_6 ?_
  refine lv_iload_n hx hb dX8_heapPart_7 rfl (lv_at hl 3 rfl) ?_
  refine a_iadd hx hb dX8_heapPart_8 ?_
  refine q_V18 S hI hK h [.int (nI d), .int (nI (4 + (4 * j) + q))] (c_X8_part l L σ (d := d) (q := 4 + (4 * j) + q) (by omega)) q_657 q_659 qs_13 q_10 q_660 yd_X8_part rfl ⟨⟨rfl, rfl⟩, ⟨(Nat.le_of_ble_eq_true rfl), (Nat.le_of_ble_eq_true rfl)⟩, Nat.le_refl _, Nat.le_refl _⟩ rfl (Nat.le_of_ble_eq_true rfl) hl.1 dX8_heapPart_9 (fun H locs h => ?_)
  exact e_i8 S hK h hr hlk dX8_heapPart_12 hp

abbrev rX8_weightOf : Room := { frames := 1, cells := 0, slots := 0, locals := 22 }
theorem yd_X8_weightOf : ydV yX8_weightOf RX8 1 := ⟨rfl, by decide +kernel, by decide +kernel, by decide +kernel⟩
set_option maxHeartbeats 4000000 in
set_option maxRecDepth 100000 in
theorem c_X8_weightOf (l : Launch) (L : Lay) (σ : Me) {d : Nat} (hd : d < 3) : Mf8 l L yX8_weightOf (Cond.code yX8_weightOf cX8_weightOf 2 (some FieldType.int) :: qA) rX8_weightOf [.ref (ad L 0), .int (nI d)] σ (some (.int (σ 1 (2 + 1024 * d + 2)))) σ := by
  refine Mf8.ofW (by decide) (Nat.le_of_ble_eq_true rfl) ?_
  intro p e s m args below meth c ls post hp hI S hr hlk hK h hl
  have hx := S.1
  have hb := S.2.1
  have hl : lv_has ls 2 [(0, .ref (ad L 0)), (1, .int (nI d))] := hl
  refine lv_aload_n hx hb dX8_weightOf_0 rfl (lv_at hl 0 rfl) ?_
  refine lv_iload_n hx hb dX8_weightOf_1 rfl (lv_at hl 1 rfl) ?_
  refine lv_iconst (v := (nI 2)) hx hb dX8_weightOf_2 (by decide) ?_
  refine q_V18 S hI hK h [.int (nI d), .int (nI 2)] (c_X8_part l L σ (d := d) (q := 2) (by omega)) q_657 q_659 qs_13 q_10 q_660 yd_X8_part rfl ⟨⟨rfl, rfl⟩, ⟨(Nat.le_of_ble_eq_true rfl), (Nat.le_of_ble_eq_true rfl)⟩, Nat.le_refl _, Nat.le_refl _⟩ rfl (Nat.le_of_ble_eq_true rfl) hl.1 dX8_weightOf_3 (fun H locs h => ?_)
  exact e_i8 S hK h hr hlk dX8_weightOf_6 hp

abbrev rX8_takeHeap : Room := { frames := 0, cells := 0, slots := 0, locals := 0 }
theorem yd_X8_takeHeap : ydV yX8_takeHeap RX8 4 := ⟨rfl, by decide +kernel, by decide +kernel, by decide +kernel⟩
set_option maxHeartbeats 4000000 in
set_option maxRecDepth 100000 in
theorem c_X8_takeHeap (l : Launch) (L : Lay) (σ : Me) {n : Nat} (hm : σ 0 2 = nI n) (hn : n < 400) (w s9 l9 g9 : Int32) : Mf8 l L yX8_takeHeap (Cond.code yX8_takeHeap cX8_takeHeap 5 none :: qA) rX8_takeHeap [.ref (ad L 0), .int w, .int s9, .int l9, .int g9] σ none (tk8 σ n (w, s9, l9, g9)) := by
  refine Mf8.ofW (by decide) (Nat.le_of_ble_eq_true rfl) ?_
  intro p e s m args below meth c ls post hp hI S hr hlk hK h hl
  have hx := S.1
  have hb := S.2.1
  have hl : lv_has ls 5 [(0, .ref (ad L 0)), (1, .int w), (2, .int s9), (3, .int l9), (4, .int g9)] := hl
  refine lv_aload_n hx hb dX8_takeHeap_0 rfl (lv_at hl 0 rfl) ?_
  refine g8 (v := (.ref (ad L 4))) S hK h 5 (by decide) rfl rfl q_601 dX8_takeHeap_1 ?_
  refine lv_aload_n hx hb dX8_takeHeap_4 rfl (lv_at hl 0 rfl) ?_
  refine g8 (v := (.int (σ 0 2))) S hK h 9 (by decide) rfl rfl q_605 dX8_takeHeap_5 ?_
  refine cv_i (show (σ 0 2 : Int32) = nI n from (by simp [mu, hm])) ?_
  refine lv_iload_n hx hb dX8_takeHeap_8 rfl (lv_at hl 1 rfl) ?_
  refine p8_el (n := 400) S hI hK h (by decide) rfl (by omega) dX8_takeHeap_9 (fun H locs h => ?_)
  refine lv_aload_n hx hb dX8_takeHeap_10 rfl (lv_at hl 0 rfl) ?_
  refine g8 (v := (.ref (ad L 5))) S hK h 6 (by decide) rfl rfl q_602 dX8_takeHeap_11 ?_
  refine lv_aload_n hx hb dX8_takeHeap_14 rfl (lv_at hl 0 rfl) ?_
  refine g8 (v := (.int ((mu σ 4 n w) 0 2))) S hK h 9 (by decide) rfl rfl q_605 dX8_takeHeap_15 ?_
  refine cv_i (show ((mu σ 4 n w) 0 2 : Int32) = nI n from (by simp [mu, hm])) ?_
  refine lv_iload_n hx hb dX8_takeHeap_18 rfl (lv_at hl 2 rfl) ?_
  refine p8_el (n := 400) S hI hK h (by decide) rfl (by omega) dX8_takeHeap_19 (fun H locs h => ?_)
  refine lv_aload_n hx hb dX8_takeHeap_20 rfl (lv_at hl 0 rfl) ?_
  refine g8 (v := (.ref (ad L 6))) S hK h 7 (by decide) rfl rfl q_603 dX8_takeHeap_21 ?_
  refine lv_aload_n hx hb dX8_takeHeap_24 rfl (lv_at hl 0 rfl) ?_
  refine g8 (v := (.int ((mu (mu σ 4 n w) 5 n s9) 0 2))) S hK h 9 (by decide) rfl rfl q_605 dX8_takeHeap_25 ?_
  refine cv_i (show ((mu (mu σ 4 n w) 5 n s9) 0 2 : Int32) = nI n from (by simp [mu, hm])) ?_
  refine lv_iload_n hx hb dX8_takeHeap_28 rfl (lv_at hl 3 rfl) ?_
  refine p8_el (n := 400) S hI hK h (by decide) rfl (by omega) dX8_takeHeap_29 (fun H locs h => ?_)
  refine lv_aload_n hx hb dX8_takeHeap_30 rfl (lv_at hl 0 rfl) ?_
  refine g8 (v := (.ref (ad L 7))) S hK h 8 (by decide) rfl rfl q_604 dX8_takeHeap_31 ?_
  refine lv_aload_n hx hb dX8_takeHeap_34 rfl (lv_at hl 0 rfl) ?_
  refine g8 (v := (.int ((mu (mu (mu σ 4 n w) 5 n s9) 6 n l9) 0 2))) S hK h 9 (by decide) rfl rfl q_605 dX8_takeHeap_35 ?_
  refine cv_i (show ((mu (mu (mu σ 4 n w) 5 n s9) 6 n l9) 0 2 : Int32) = nI n from (by simp [mu, hm])) ?_
  refine lv_iload hx hb dX8_takeHeap_38 (lv_at hl 4 rfl) ?_
  refine p8_el (n := 400) S hI hK h (by decide) rfl (by omega) dX8_takeHeap_40 (fun H locs h => ?_)
  refine lv_aload_n hx hb dX8_takeHeap_41 rfl (lv_at hl 0 rfl) ?_
  refine lv_dup hx hb dX8_takeHeap_42 rfl ?_
  refine g8 (v := (.int ((mu (mu (mu (mu σ 4 n w) 5 n s9) 6 n l9) 7 n g9) 0 2))) S hK h 9 (by decide) rfl rfl q_605 dX8_takeHeap_43 ?_
  refine cv_i (show ((mu (mu (mu (mu σ 4 n w) 5 n s9) 6 n l9) 7 n g9) 0 2 : Int32) = nI n from (by simp [mu, hm])) ?_
  refine lv_iconst (v := (nI 1)) hx hb dX8_takeHeap_46 (by decide) ?_
  refine a_iadd hx hb dX8_takeHeap_47 ?_
  refine p8 2 9 S hI hK h (by decide) rfl (fun _ => rfl) q_605 dX8_takeHeap_48 (fun H locs h => ?_)
  exact e_v8 S hK h hr hlk dX8_takeHeap_51 (fin_p8 hp rfl rfl)

abbrev rX8_copyHeap : Room := { frames := 0, cells := 0, slots := 0, locals := 0 }
theorem yd_X8_copyHeap : ydV yX8_copyHeap RX8 2 := ⟨rfl, by decide +kernel, by decide +kernel, by decide +kernel⟩
set_option maxHeartbeats 4000000 in
set_option maxRecDepth 100000 in
theorem c_X8_copyHeap (l : Launch) (L : Lay) (σ : Me) {i j : Nat} (hi : i < 400) (hj : j < 400) : Mf8 l L yX8_copyHeap (Cond.code yX8_copyHeap cX8_copyHeap 3 none :: qA) rX8_copyHeap [.ref (ad L 0), .int (nI i), .int (nI j)] σ none (put8 σ j (hp8 σ i)) := by
  refine Mf8.ofW (by decide) (Nat.le_of_ble_eq_true rfl) ?_
  intro p e s m args below meth c ls post hp hI S hr hlk hK h hl
  have hx := S.1
  have hb := S.2.1
  have hl : lv_has ls 3 [(0, .ref (ad L 0)), (1, .int (nI i)), (2, .int (nI j))] := hl
  refine lv_aload_n hx hb dX8_copyHeap_0 rfl (lv_at hl 0 rfl) ?_
  refine g8 (v := (.ref (ad L 4))) S hK h 5 (by decide) rfl rfl q_601 dX8_copyHeap_1 ?_
  refine lv_iload_n hx hb dX8_copyHeap_4 rfl (lv_at hl 2 rfl) ?_
  refine lv_aload_n hx hb dX8_copyHeap_5 rfl (lv_at hl 0 rfl) ?_
  refine g8 (v := (.ref (ad L 4))) S hK h 5 (by decide) rfl rfl q_601 dX8_copyHeap_6 ?_
  refine lv_iload_n hx hb dX8_copyHeap_9 rfl (lv_at hl 1 rfl) ?_
  refine g8_el (n := 400) S hK h (by decide) rfl (by omega) dX8_copyHeap_10 ?_
  refine p8_el (n := 400) S hI hK h (by decide) rfl (by omega) dX8_copyHeap_11 (fun H locs h => ?_)
  refine lv_aload_n hx hb dX8_copyHeap_12 rfl (lv_at hl 0 rfl) ?_
  refine g8 (v := (.ref (ad L 5))) S hK h 6 (by decide) rfl rfl q_602 dX8_copyHeap_13 ?_
  refine lv_iload_n hx hb dX8_copyHeap_16 rfl (lv_at hl 2 rfl) ?_
  refine lv_aload_n hx hb dX8_copyHeap_17 rfl (lv_at hl 0 rfl) ?_
  refine g8 (v := (.ref (ad L 5))) S hK h 6 (by decide) rfl rfl q_602 dX8_copyHeap_18 ?_
  refine lv_iload_n hx hb dX8_copyHeap_21 rfl (lv_at hl 1 rfl) ?_
  refine g8_el (n := 400) S hK h (by decide) rfl (by omega) dX8_copyHeap_22 ?_
  refine cv_i (show ((mu σ 4 j (σ 4 i)) 5 i : Int32) = σ 5 i from (by simp [mu])) ?_
  refine p8_el (n := 400) S hI hK h (by decide) rfl (by omega) dX8_copyHeap_23 (fun H locs h => ?_)
  refine lv_aload_n hx hb dX8_copyHeap_24 rfl (lv_at hl 0 rfl) ?_
  refine g8 (v := (.ref (ad L 6))) S hK h 7 (by decide) rfl rfl q_603 dX8_copyHeap_25 ?_
  refine lv_iload_n hx hb dX8_copyHeap_28 rfl (lv_at hl 2 rfl) ?_
  refine lv_aload_n hx hb dX8_copyHeap_29 rfl (lv_at hl 0 rfl) ?_
  refine g8 (v := (.ref (ad L 6))) S hK h 7 (by decide) rfl rfl q_603 dX8_copyHeap_30 ?_
  refine lv_iload_n hx hb dX8_copyHeap_33 rfl (lv_at hl 1 rfl) ?_
  refine g8_el (n := 400) S hK h (by decide) rfl (by omega) dX8_copyHeap_34 ?_
  refine cv_i (show ((mu (mu σ 4 j (σ 4 i)) 5 j (σ 5 i)) 6 i : Int32) = σ 6 i from (by simp [mu])) ?_
  refine p8_el (n := 400) S hI hK h (by decide) rfl (by omega) dX8_copyHeap_35 (fun H locs h => ?_)
  refine lv_aload_n hx hb dX8_copyHeap_36 rfl (lv_at hl 0 rfl) ?_
  refine g8 (v := (.ref (ad L 7))) S hK h 8 (by decide) rfl rfl q_604 dX8_copyHeap_37 ?_
  refine lv_iload_n hx hb dX8_copyHeap_40 rfl (lv_at hl 2 rfl) ?_
  refine lv_aload_n hx hb dX8_copyHeap_41 rfl (lv_at hl 0 rfl) ?_
  refine g8 (v := (.ref (ad L 7))) S hK h 8 (by decide) rfl rfl q_604 dX8_copyHeap_42 ?_
  refine lv_iload_n hx hb dX8_copyHeap_45 rfl (lv_at hl 1 rfl) ?_
  refine g8_el (n := 400) S hK h (by decide) rfl (by omega) dX8_copyHeap_46 ?_
  refine cv_i (show ((mu (mu (mu σ 4 j (σ 4 i)) 5 j (σ 5 i)) 6 j (σ 6 i)) 7 i : Int32) = σ 7 i from (by simp [mu])) ?_
  refine p8_el (n := 400) S hI hK h (by decide) rfl (by omega) dX8_copyHeap_47 (fun H locs h => ?_)
  exact e_v8 S hK h hr hlk dX8_copyHeap_48 (fin_p8 hp rfl rfl)

abbrev rX8_whyNoQuantile : Room := { frames := 2, cells := 0, slots := 0, locals := 43 }
theorem yd_X8_whyNoQuantile : ydV yX8_whyNoQuantile RX8 3 := ⟨rfl, by decide +kernel, by decide +kernel, by decide +kernel⟩
set_option maxHeartbeats 4000000 in
set_option maxRecDepth 100000 in
theorem c_X8_whyNoQuantile (l : Launch) (L : Lay) (σ : Me) {X : SS} (hS : MS (σ 1) X) (hX : XI X) (x q9 : Int32) (m9 : Nat) : Mf8 l L yX8_whyNoQuantile (Cond.code yX8_whyNoQuantile cX8_whyNoQuantile 4 (some FieldType.int) :: qA) rX8_whyNoQuantile [.ref (ad L 0), .int x, .int q9, .int (nI m9)] σ (some (.int (whyQ X x q9 m9))) σ := by
  refine Mf8.ofW (by decide) (Nat.le_of_ble_eq_true rfl) ?_
  intro p e s m args below meth c ls post hp hI S hr hlk hK h hl
  have hx := S.1
  have hb := S.2.1
  have hl : lv_has ls 4 [(0, .ref (ad L 0)), (1, .int x), (2, .int q9), (3, .int (nI m9))] := hl
  unfold whyQ at hp
  refine lv_iload_n hx hb dX8_whyNoQuantile_0 rfl (lv_at hl 1 rfl) ?_
  refine q_S18 S hI hK h [.int x] (c_X8_isDigest l L σ x) q_646 q_647 q_10 q_648 yd_X8_isDigest rfl ⟨⟨rfl, rfl⟩, ⟨(Nat.le_of_ble_eq_true rfl), (Nat.le_of_ble_eq_true rfl)⟩, Nat.le_refl _, Nat.le_refl _⟩ rfl (Nat.le_of_ble_eq_true rfl) hl.1 dX8_whyNoQuantile_1 (fun H locs h => ?_)
  refine z_eq (tgt := 16) hx hb dX8_whyNoQuantile_4 (by decide) (fun c_4 => ?_) (fun c_4 => ?_)
  · rw [if_pos c_4] at hp
    refine lv_ldc (v := (-1000001 : Int32)) hx hb S.2.2.2.1 (S.2.2.2.2 _ q_652) dX8_whyNoQuantile_16 ?_
    refine lv_goto (tgt := 35) hx hb dX8_whyNoQuantile_18 (by decide) ?_
    exact e_i8 S hK h hr hlk dX8_whyNoQuantile_35 (by first | exact hp | exact (nI_0 ▸ hp))
  · rw [if_neg (fun z => z c_4)] at hp
    obtain ⟨i, -, hi2, rfl⟩ := rng_nat (a := 0) (b := 2) (by omega) (by omega) c_4
    rw [nI_clamp (show i < 2 ^ 31 by omega)] at hp
    obtain ⟨la, lb, lc, ld⟩ := hX.1 i (by omega)
    have m3 := (hS.2.2 i (by omega)).2.2.1
    refine lv_iload_n hx hb dX8_whyNoQuantile_7 rfl (lv_at hl 2 rfl) ?_
    refine lv_iconst (v := (nI 0)) hx hb dX8_whyNoQuantile_8 (by decide) ?_
    refine lv_iload_n hx hb dX8_whyNoQuantile_9 rfl (lv_at hl 3 rfl) ?_
    refine q_S18 S hI hK h [.int q9, .int (nI 0), .int (nI m9)] (c_X8_within l L σ q9 (nI 0) (nI m9)) q_649 q_650 q_10 q_651 yd_X8_within rfl ⟨⟨rfl, rfl⟩, ⟨(Nat.le_of_ble_eq_true rfl), (Nat.le_of_ble_eq_true rfl)⟩, Nat.le_refl _, Nat.le_refl _⟩ rfl (Nat.le_of_ble_eq_true rfl) hl.1 dX8_whyNoQuantile_10 (fun H locs h => ?_)
    refine z_ne (tgt := 21) hx hb dX8_whyNoQuantile_13 (by decide) (fun c_13 => ?_) (fun c_13 => ?_)
    · rw [if_neg (fun z => z c_13)] at hp
      refine lv_aload_n hx hb dX8_whyNoQuantile_21 rfl (lv_at hl 0 rfl) ?_
      refine lv_iload_n hx hb dX8_whyNoQuantile_22 rfl (lv_at hl 1 rfl) ?_
      refine q_V18 S hI hK h [.int (nI i)] (c_X8_weightOf l L σ (d := i) (by omega)) q_653 q_655 qs_12 q_10 q_656 yd_X8_weightOf rfl ⟨⟨rfl, rfl⟩, ⟨(Nat.le_of_ble_eq_true rfl), (Nat.le_of_ble_eq_true rfl)⟩, Nat.le_refl _, Nat.le_refl _⟩ rfl (Nat.le_of_ble_eq_true rfl) hl.1 dX8_whyNoQuantile_23 (fun H locs h => ?_)
      refine cv_i (show (σ 1 (2 + 1024 * i + 2) : Int32) = nI ((X.2.2 i).2.2.1.length) from m3) ?_
      refine b_if_ne (tgt := 34) hx hb dX8_whyNoQuantile_26 (by decide) (by omega) (fun c_26 => ?_) (fun c_26 => ?_)
      · rw [if_neg (Nat.ne_of_gt c_26)] at hp
        refine lv_iconst (v := (nI 0)) hx hb dX8_whyNoQuantile_34 (by decide) ?_
        exact e_i8 S hK h hr hlk dX8_whyNoQuantile_35 (by first | exact hp | exact (nI_0 ▸ hp))
      · rw [if_pos c_26] at hp
        refine lv_ldc (v := (-1000002 : Int32)) hx hb S.2.2.2.1 (S.2.2.2.2 _ q_779) dX8_whyNoQuantile_29 ?_
        refine lv_goto (tgt := 35) hx hb dX8_whyNoQuantile_31 (by decide) ?_
        exact e_i8 S hK h hr hlk dX8_whyNoQuantile_35 (by first | exact hp | exact (nI_0 ▸ hp))
    · rw [if_pos c_13] at hp
      refine lv_ldc (v := (-1000001 : Int32)) hx hb S.2.2.2.1 (S.2.2.2.2 _ q_652) dX8_whyNoQuantile_16 ?_
      refine lv_goto (tgt := 35) hx hb dX8_whyNoQuantile_18 (by decide) ?_
      exact e_i8 S hK h hr hlk dX8_whyNoQuantile_35 (by first | exact hp | exact (nI_0 ▸ hp))

abbrev rX8_findAll : Room := { frames := 4, cells := 0, slots := 0, locals := 88 }
theorem yd_X8_findAll : ydV yX8_findAll RX8 1 := ⟨rfl, by decide +kernel, by decide +kernel, by decide +kernel⟩
set_option maxHeartbeats 4000000 in
set_option maxRecDepth 100000 in
theorem c_X8_findAll (l : Launch) (L : Lay) (σ : Me) {X : SS} {hh : List SS} {t : List Int32} (hc : MC σ X hh t) (hX : GX X) {d : Nat} (hd : d < 3) : Mg8 l L yX8_findAll (Cond.code yX8_findAll cX8_findAll 2 none :: qA) rX8_findAll [.ref (ad L 0), .int (nI d)] σ (fun r u => r = none ∧ HL u (trL X d) ∧ OV u (srt (X.2.2 d).2.2.1) ∧ MC u X hh t) := by
  refine Mr8_ofW (by decide) (Nat.le_of_ble_eq_true rfl) ?_
  intro p e s m args below meth c ls post hp hI S hr hlk hK h hl
  have hx := S.1
  have hb := S.2.1
  have hl : lv_has ls 2 [(0, .ref (ad L 0)), (1, .int (nI d))] := hl
  refine lv_aload_n hx hb dX8_findAll_0 rfl (lv_at hl 0 rfl) ?_
  refine lv_iload_n hx hb dX8_findAll_1 rfl (lv_at hl 1 rfl) ?_
  refine q_VR8 S hI hK h [.int (nI d)] (c_X8_findPacked l L σ hc.1 hX.I hd (GD_all (hX.1 d hd)).1) q_677 q_679 qs_17 q_10 q_680 yd_X8_findPacked rfl ⟨⟨rfl, rfl⟩, ⟨(Nat.le_of_ble_eq_true rfl), (Nat.le_of_ble_eq_true rfl)⟩, Nat.le_refl _, Nat.le_refl _⟩ rfl (Nat.le_of_ble_eq_true rfl) hl.1 dX8_findAll_2 (fun σ1 H locs hp9 h => ?_)
  obtain ⟨hL1, hO1⟩ := hp9
  have hc1 := MC_t hc hO1
  refine lv_aload_n hx hb dX8_findAll_5 rfl (lv_at hl 0 rfl) ?_
  refine lv_iload_n hx hb dX8_findAll_6 rfl (lv_at hl 1 rfl) ?_
  refine q_VR8 S hI hK h [.int (nI d)] (c_X8_putValuesInOrder l L σ1 hc1.1 hd (hX.1 d hd).1.2.1) q_759 q_761 qs_29 q_10 q_762 yd_X8_putValuesInOrder rfl ⟨⟨rfl, rfl⟩, ⟨(Nat.le_of_ble_eq_true rfl), (Nat.le_of_ble_eq_true rfl)⟩, Nat.le_refl _, Nat.le_refl _⟩ rfl (Nat.le_of_ble_eq_true rfl) hl.1 dX8_findAll_7 (fun σ2 H locs hp9 h => ?_)
  obtain ⟨hV2, ho2⟩ := hp9
  exact e_v8 S hK h hr hlk dX8_findAll_10 (hp _ _ ⟨rfl, HL_8 hL1 ho2, hV2, MC_8 hc1 ho2⟩)

abbrev rX8_truthBy : Room := { frames := 0, cells := 0, slots := 0, locals := 0 }
theorem yd_X8_truthBy : ydV yX8_truthBy RX8 2 := ⟨rfl, by decide +kernel, by decide +kernel, by decide +kernel⟩
set_option maxHeartbeats 4000000 in
set_option maxRecDepth 100000 in
theorem c_X8_truthBy (l : Launch) (L : Lay) (σ : Me) {V : List Int32} {n9 q9 : Nat} (hO : OV σ (srt V)) (hn : V.length = n9) (h0 : 0 < n9) (h2 : n9 ≤ 200) (hq : q9 ≤ 1000) : Mf8 l L yX8_truthBy (Cond.code yX8_truthBy cX8_truthBy 3 (some FieldType.int) :: qA) rX8_truthBy [.ref (ad L 0), .int (nI n9), .int (nI q9)] σ (some (.int (trV (srt V) q9))) σ := by
  refine Mf8.ofW (by decide) (Nat.le_of_ble_eq_true rfl) ?_
  intro p e s m args below meth c ls post hp hI S hr hlk hK h hl
  have hx := S.1
  have hb := S.2.1
  have hl : lv_has ls 3 [(0, .ref (ad L 0)), (1, .int (nI n9)), (2, .int (nI q9))] := hl
  obtain ⟨i1, i2⟩ := idx_lt hq h0
  refine lv_aload_n hx hb dX8_truthBy_0 rfl (lv_at hl 0 rfl) ?_
  refine g8 (v := (.ref (ad L 8))) S hK h 10 (by decide) rfl rfl q_606 dX8_truthBy_1 ?_
  refine lv_iload_n hx hb dX8_truthBy_4 rfl (lv_at hl 2 rfl) ?_
  refine lv_iload_n hx hb dX8_truthBy_5 rfl (lv_at hl 1 rfl) ?_
  refine lv_iconst (v := (nI 1)) hx hb dX8_truthBy_6 (by decide) ?_
  refine a_isub hx hb dX8_truthBy_7 (by omega) ?_
  refine a_imul hx hb dX8_truthBy_8 ?_
  refine lv_sipush (v := (nI 1000)) hx hb dX8_truthBy_9 (by decide) ?_
  refine a_idiv hx hb dX8_truthBy_12 (by omega) (by omega) (by omega) ?_
  refine g8_el (n := 200) S hK h (by decide) rfl (by omega) dX8_truthBy_13 ?_
  refine cv_i (show (σ 8 ((q9 * (n9 - 1)) / 1000) : Int32) = trV (srt V) q9 from (by rw [hO _ (by rw [srt_len]; omega), trV, srt_len, hn])) ?_
  exact e_i8 S hK h hr hlk dX8_truthBy_14 hp

abbrev rX8_truth : Room := { frames := 5, cells := 0, slots := 0, locals := 109 }
theorem yd_X8_truth : ydV yX8_truth RX8 2 := ⟨rfl, by decide +kernel, by decide +kernel, by decide +kernel⟩
set_option maxHeartbeats 4000000 in
set_option maxRecDepth 100000 in
theorem c_X8_truth (l : Launch) (L : Lay) (σ : Me) {X : SS} {hh : List SS} {t : List Int32} (hc : MC σ X hh t) (hX : GX X) (hH : ∀ Y ∈ hh, GX Y) (x q : Int32) : Mg8 l L yX8_truth (Cond.code yX8_truth cX8_truth 4 (some FieldType.int) :: qA) rX8_truth [.ref (ad L 0), .int x, .int q] σ (fun r u => r = some (.int (mTru X x q)) ∧ MC u X hh t) := by
  refine Mr8_ofW (by decide) (Nat.le_of_ble_eq_true rfl) ?_
  intro p e s m args below meth c ls post hp hI S hr hlk hK h hl
  have hx := S.1
  have hb := S.2.1
  have hl : lv_has ls 4 [(0, .ref (ad L 0)), (1, .int x), (2, .int q)] := hl
  unfold mTru at hp
  refine lv_aload_n hx hb dX8_truth_0 rfl (lv_at hl 0 rfl) ?_
  refine lv_iload_n hx hb dX8_truth_1 rfl (lv_at hl 1 rfl) ?_
  refine lv_iload_n hx hb dX8_truth_2 rfl (lv_at hl 2 rfl) ?_
  refine lv_sipush (v := (nI 1000)) hx hb dX8_truth_3 (by decide) ?_
  refine q_V18 S hI hK h [.int x, .int q, .int (nI 1000)] (c_X8_whyNoQuantile l L σ hc.1 hX.I x q 1000) q_775 q_777 qs_32 q_10 q_778 yd_X8_whyNoQuantile rfl ⟨⟨rfl, rfl⟩, ⟨(Nat.le_of_ble_eq_true rfl), (Nat.le_of_ble_eq_true rfl)⟩, Nat.le_refl _, Nat.le_refl _⟩ rfl (Nat.le_of_ble_eq_true rfl) hl.1 dX8_truth_6 (fun H locs h => ?_)
  refine lv_istore_n (lv' := [(3, .int (whyQ X x q 1000)), (0, .ref (ad L 0)), (1, .int x), (2, .int q)]) hx hb dX8_truth_9 rfl hl (by decide) rfl (fun ls hl => ?_)
  refine lv_iload_n hx hb dX8_truth_10 rfl (lv_at hl 0 rfl) ?_
  refine lv_if_ge (tgt := 16) hx hb dX8_truth_11 (by decide) (fun c_11 => ?_) (fun c_11 => ?_)
  · rw [if_neg (Int32.not_lt.mpr c_11)] at hp
    obtain ⟨i, hi, rfl, c9, hV9⟩ := whyQ_0 (Int32.not_lt.mpr c_11)
    obtain ⟨q9, -, hq9, rfl⟩ := rng_nat (a := 0) (b := 1000) (by omega) (by omega) c9
    rw [nI_clamp (show i < 2 ^ 31 by omega), nI_clamp (show q9 < 2 ^ 31 by omega)] at hp
    have hGi := hX.1 i hi
    obtain ⟨la, lb, lc, ld⟩ := hGi.1
    refine lv_aload_n hx hb dX8_truth_16 rfl (lv_at hl 1 rfl) ?_
    refine lv_iload_n hx hb dX8_truth_17 rfl (lv_at hl 2 rfl) ?_
    refine q_VR8 S hI hK h [.int (nI i)] (c_X8_findAll l L σ hc hX hi) q_780 q_782 qs_33 q_10 q_783 yd_X8_findAll rfl ⟨⟨rfl, rfl⟩, ⟨(Nat.le_of_ble_eq_true rfl), (Nat.le_of_ble_eq_true rfl)⟩, Nat.le_refl _, Nat.le_refl _⟩ rfl (Nat.le_of_ble_eq_true rfl) hl.1 dX8_truth_18 (fun σ1 H locs hp9 h => ?_)
    obtain ⟨hL1, hOV, hc1⟩ := hp9
    have m3 := (hc1.1.2.2 i hi).2.2.1
    refine lv_aload_n hx hb dX8_truth_21 rfl (lv_at hl 1 rfl) ?_
    refine lv_aload_n hx hb dX8_truth_22 rfl (lv_at hl 1 rfl) ?_
    refine lv_iload_n hx hb dX8_truth_23 rfl (lv_at hl 2 rfl) ?_
    refine q_V18 S hI hK h [.int (nI i)] (c_X8_weightOf l L σ1 (d := i) (by omega)) q_653 q_655 qs_12 q_10 q_656 yd_X8_weightOf rfl ⟨⟨rfl, rfl⟩, ⟨(Nat.le_of_ble_eq_true rfl), (Nat.le_of_ble_eq_true rfl)⟩, Nat.le_refl _, Nat.le_refl _⟩ rfl (Nat.le_of_ble_eq_true rfl) hl.1 dX8_truth_24 (fun H locs h => ?_)
    refine cv_i (show (σ1 1 (2 + 1024 * i + 2) : Int32) = nI ((X.2.2 i).2.2.1.length) from m3) ?_
    refine lv_iload_n hx hb dX8_truth_27 rfl (lv_at hl 3 rfl) ?_
    refine q_V18 S hI hK h [.int (nI ((X.2.2 i).2.2.1.length)), .int (nI q9)] (c_X8_truthBy l L σ1 hOV rfl hV9 lb hq9) q_794 q_796 qs_35 q_10 q_797 yd_X8_truthBy rfl ⟨⟨rfl, rfl⟩, ⟨(Nat.le_of_ble_eq_true rfl), (Nat.le_of_ble_eq_true rfl)⟩, Nat.le_refl _, Nat.le_refl _⟩ rfl (Nat.le_of_ble_eq_true rfl) hl.1 dX8_truth_28 (fun H locs h => ?_)
    exact e_i8 S hK h hr hlk dX8_truth_31 (hp _ _ ⟨rfl, hc1⟩)
  · rw [if_pos (Int32.not_le.mp c_11)] at hp
    refine lv_iload_n hx hb dX8_truth_14 rfl (lv_at hl 0 rfl) ?_
    exact e_i8 S hK h hr hlk dX8_truth_15 (hp _ _ ⟨rfl, hc⟩)

abbrev rX8_width : Room := { frames := 5, cells := 0, slots := 0, locals := 109 }
theorem yd_X8_width : ydV yX8_width RX8 2 := ⟨rfl, by decide +kernel, by decide +kernel, by decide +kernel⟩
set_option maxHeartbeats 4000000 in
set_option maxRecDepth 100000 in
theorem c_X8_width (l : Launch) (L : Lay) (σ : Me) {X : SS} {hh : List SS} {t : List Int32} (hc : MC σ X hh t) (hX : GX X) (hH : ∀ Y ∈ hh, GX Y) (x q : Int32) : Mg8 l L yX8_width (Cond.code yX8_width cX8_width 7 (some FieldType.int) :: qA) rX8_width [.ref (ad L 0), .int x, .int q] σ (fun r u => r = some (.int (mWid X x q)) ∧ MC u X hh t) := by
  refine Mr8_ofW (by decide) (Nat.le_of_ble_eq_true rfl) ?_
  intro p e s m args below meth c ls post hp hI S hr hlk hK h hl
  have hx := S.1
  have hb := S.2.1
  have hl : lv_has ls 7 [(0, .ref (ad L 0)), (1, .int x), (2, .int q)] := hl
  unfold mWid at hp
  refine lv_aload_n hx hb dX8_width_0 rfl (lv_at hl 0 rfl) ?_
  refine lv_iload_n hx hb dX8_width_1 rfl (lv_at hl 1 rfl) ?_
  refine lv_iload_n hx hb dX8_width_2 rfl (lv_at hl 2 rfl) ?_
  refine lv_sipush (v := (nI 1000)) hx hb dX8_width_3 (by decide) ?_
  refine q_V18 S hI hK h [.int x, .int q, .int (nI 1000)] (c_X8_whyNoQuantile l L σ hc.1 hX.I x q 1000) q_775 q_777 qs_32 q_10 q_778 yd_X8_whyNoQuantile rfl ⟨⟨rfl, rfl⟩, ⟨(Nat.le_of_ble_eq_true rfl), (Nat.le_of_ble_eq_true rfl)⟩, Nat.le_refl _, Nat.le_refl _⟩ rfl (Nat.le_of_ble_eq_true rfl) hl.1 dX8_width_6 (fun H locs h => ?_)
  refine lv_istore_n (lv' := [(3, .int (whyQ X x q 1000)), (0, .ref (ad L 0)), (1, .int x), (2, .int q)]) hx hb dX8_width_9 rfl hl (by decide) rfl (fun ls hl => ?_)
  refine lv_iload_n hx hb dX8_width_10 rfl (lv_at hl 0 rfl) ?_
  refine lv_if_ge (tgt := 16) hx hb dX8_width_11 (by decide) (fun c_11 => ?_) (fun c_11 => ?_)
  · rw [if_neg (Int32.not_lt.mpr c_11)] at hp
    obtain ⟨i, hi, rfl, c9, hV9⟩ := whyQ_0 (Int32.not_lt.mpr c_11)
    obtain ⟨q9, -, hq9, rfl⟩ := rng_nat (a := 0) (b := 1000) (by omega) (by omega) c9
    rw [nI_clamp (show i < 2 ^ 31 by omega), nI_clamp (show q9 < 2 ^ 31 by omega)] at hp
    have hGi := hX.1 i hi
    obtain ⟨la, lb, lc, ld⟩ := hGi.1
    obtain ⟨g1, g2⟩ := trL_GH hGi
    have g3 := trL_pos hGi hV9
    have g4 := trL_len hX.I hi
    obtain ⟨i1, i2⟩ := idx_lt hq9 hV9
    refine lv_aload_n hx hb dX8_width_16 rfl (lv_at hl 1 rfl) ?_
    refine lv_iload_n hx hb dX8_width_17 rfl (lv_at hl 2 rfl) ?_
    refine q_VR8 S hI hK h [.int (nI i)] (c_X8_findAll l L σ hc hX hi) q_780 q_782 qs_33 q_10 q_783 yd_X8_findAll rfl ⟨⟨rfl, rfl⟩, ⟨(Nat.le_of_ble_eq_true rfl), (Nat.le_of_ble_eq_true rfl)⟩, Nat.le_refl _, Nat.le_refl _⟩ rfl (Nat.le_of_ble_eq_true rfl) hl.1 dX8_width_18 (fun σ1 H locs hp9 h => ?_)
    obtain ⟨hL1, hOV, hc1⟩ := hp9
    have m3 := (hc1.1.2.2 i hi).2.2.1
    refine lv_iload_n hx hb dX8_width_21 rfl (lv_at hl 3 rfl) ?_
    refine lv_aload_n hx hb dX8_width_22 rfl (lv_at hl 1 rfl) ?_
    refine lv_iload_n hx hb dX8_width_23 rfl (lv_at hl 2 rfl) ?_
    refine q_V18 S hI hK h [.int (nI i)] (c_X8_weightOf l L σ1 (d := i) (by omega)) q_653 q_655 qs_12 q_10 q_656 yd_X8_weightOf rfl ⟨⟨rfl, rfl⟩, ⟨(Nat.le_of_ble_eq_true rfl), (Nat.le_of_ble_eq_true rfl)⟩, Nat.le_refl _, Nat.le_refl _⟩ rfl (Nat.le_of_ble_eq_true rfl) hl.1 dX8_width_24 (fun H locs h => ?_)
    refine cv_i (show (σ1 1 (2 + 1024 * i + 2) : Int32) = nI ((X.2.2 i).2.2.1.length) from m3) ?_
    refine lv_iconst (v := (nI 1)) hx hb dX8_width_27 (by decide) ?_
    refine a_isub hx hb dX8_width_28 (by omega) ?_
    refine a_imul hx hb dX8_width_29 ?_
    refine lv_sipush (v := (nI 1000)) hx hb dX8_width_30 (by decide) ?_
    refine a_idiv hx hb dX8_width_33 (by omega) (by omega) (by omega) ?_
    refine lv_istore (lv' := [(4, .int (nI ((q9 * (((X.2.2 i).2.2.1.length) - 1)) / 1000))), (3, .int (whyQ X (nI i) (nI q9) 1000)), (0, .ref (ad L 0)), (1, .int (nI i)), (2, .int (nI q9))]) hx hb dX8_width_34 hl (by decide) rfl (fun ls hl => ?_)
    refine lv_iconst (v := (nI 0)) hx hb dX8_width_36 (by decide) ?_
    refine lv_istore (lv' := [(5, .int (nI 0)), (4, .int (nI ((q9 * (((X.2.2 i).2.2.1.length) - 1)) / 1000))), (3, .int (whyQ X (nI i) (nI q9) 1000)), (0, .ref (ad L 0)), (1, .int (nI i)), (2, .int (nI q9))]) hx hb dX8_width_37 hl (by decide) rfl (fun ls hl => ?_)
    refine lv_aload_n hx hb dX8_width_39 rfl (lv_at hl 3 rfl) ?_
    refine g8 (v := (.ref (ad L 4))) S hK h 5 (by decide) rfl rfl q_601 dX8_width_40 ?_
    refine lv_iconst (v := (nI 0)) hx hb dX8_width_43 (by decide) ?_
    refine g8_el (n := 400) S hK h (by decide) rfl (by omega) dX8_width_44 ?_
    refine cv_i (show (σ1 4 0 : Int32) = nI (sumN ((trL X i).take (0 + 1))) from (by show h_w (hp8 σ1 0) = _; rw [hL1.2 0 g3, (wN_GH (g1 _ (mem_getD (d := hd0) g3))).1, sumN_take g3, List.take_zero]; show _ = nI (0 + _); rw [Nat.zero_add])) ?_
    refine lv_istore (lv' := [(6, .int (nI (sumN ((trL X i).take (0 + 1))))), (5, .int (nI 0)), (4, .int (nI ((q9 * (((X.2.2 i).2.2.1.length) - 1)) / 1000))), (3, .int (whyQ X (nI i) (nI q9) 1000)), (0, .ref (ad L 0)), (1, .int (nI i)), (2, .int (nI q9))]) hx hb dX8_width_45 hl (by decide) rfl (fun ls hl => ?_)
    have LP_47 : ∀ (n_47 : Nat) (k : Nat) (a9 : Nat), (k < (trL X i).length) → (a9 = sumN ((trL X i).take k)) → (wAt (nI (q9 * ((X.2.2 i).2.2.1.length - 1) / 1000)) (nI 0) (trL X i) = wAt (nI (q9 * ((X.2.2 i).2.2.1.length - 1) / 1000)) (nI a9) ((trL X i).drop k)) → (trL X i).length - k < n_47 → ∀ (H : Heap) (locs : List Loc) (ls : Array Slot), Hd8 L s.heap H σ1 locs → lv_has ls 7 [(6, .int (nI (sumN ((trL X i).take (k + 1))))), (5, .int (nI k)), (4, .int (nI (q9 * ((X.2.2 i).2.2.1.length - 1) / 1000))), (2, .int (nI q9)), (1, .int (nI i)), (0, .ref (ad L 0))] → W p l e rX8_width s m args below meth c H locs 0 0 (MQ below (Qg post (bs8 L) (Aw8 L)) args s 0 0 (Aw8 L)) (F0 m 47 ls []) := by
      intro n_47
      induction n_47 with
      | zero => intro k a9; intros; omega
      | succ n_47 ih_47 =>
        intro k a9 hk ha9 hr9 hm_47 H locs ls h hl
        obtain ⟨w1, w2, w3⟩ := wN_GH (g1 _ (mem_getD (d := hd0) hk))
        have st := sumN_take hk
        have sle : sumN ((trL X i).take (k + 1)) ≤ (X.2.2 i).2.2.1.length := by rw [← g2]; have q9 := sumN_app ((trL X i).take (k + 1)) ((trL X i).drop (k + 1)); rw [List.take_append_drop] at q9; omega
        refine lv_iload hx hb dX8_width_47 (lv_at hl 0 rfl) ?_
        refine lv_iload hx hb dX8_width_49 (lv_at hl 2 rfl) ?_
        refine b_icmp_gt (tgt := 72) hx hb dX8_width_51 (by decide) (by omega) (by omega) (fun c_51 => ?_) (fun c_51 => ?_)
        · refine lv_aload_n hx hb dX8_width_72 rfl (lv_at hl 5 rfl) ?_
          refine g8 (v := (.ref (ad L 7))) S hK h 8 (by decide) rfl rfl q_604 dX8_width_73 ?_
          refine lv_iload hx hb dX8_width_76 (lv_at hl 1 rfl) ?_
          refine g8_el (n := 400) S hK h (by decide) rfl (by omega) dX8_width_78 ?_
          refine cv_i (show (σ1 7 k : Int32) = h_g ((trL X i).getD k hd0) from (congrArg h_g (hL1.2 k hk))) ?_
          refine lv_aload_n hx hb dX8_width_79 rfl (lv_at hl 5 rfl) ?_
          refine g8 (v := (.ref (ad L 6))) S hK h 7 (by decide) rfl rfl q_603 dX8_width_80 ?_
          refine lv_iload hx hb dX8_width_83 (lv_at hl 1 rfl) ?_
          refine g8_el (n := 400) S hK h (by decide) rfl (by omega) dX8_width_85 ?_
          refine cv_i (show (σ1 6 k : Int32) = h_l ((trL X i).getD k hd0) from (congrArg h_l (hL1.2 k hk))) ?_
          refine lv_isub hx hb dX8_width_86 ?_
          exact e_i8 S hK h hr hlk dX8_width_87 (hp _ _ ⟨by rw [hr9, wAt_1 hk, w1, nI_add, ha9, ← st, if_pos ((nI_ltI (by omega) (by omega)).mpr c_51)], hc1⟩)
        · have hk1 : k + 1 < (trL X i).length := by rcases Nat.lt_or_ge (k + 1) (trL X i).length with z | z; exact z; exact absurd c_51 (by rw [List.take_of_length_le z, g2]; omega)
          refine lv_iinc (v := (nI (k + 1))) (lv' := [(5, .int (nI (k + 1))), (6, .int (nI (sumN ((trL X i).take (k + 1))))), (4, .int (nI (q9 * ((X.2.2 i).2.2.1.length - 1) / 1000))), (2, .int (nI q9)), (1, .int (nI i)), (0, .ref (ad L 0))]) hx hb dX8_width_54 hl (k := 1) rfl (iinc_1 _) (by decide) rfl (fun ls hl => ?_)
          refine lv_iload hx hb dX8_width_57 (lv_at hl 1 rfl) ?_
          refine lv_aload_n hx hb dX8_width_59 rfl (lv_at hl 5 rfl) ?_
          refine g8 (v := (.ref (ad L 4))) S hK h 5 (by decide) rfl rfl q_601 dX8_width_60 ?_
          refine lv_iload hx hb dX8_width_63 (lv_at hl 0 rfl) ?_
          refine g8_el (n := 400) S hK h (by decide) rfl (by omega) dX8_width_65 ?_
          refine cv_i (show (σ1 4 (k + 1) : Int32) = nI (wN ((trL X i).getD (k + 1) hd0)) from (by show h_w (hp8 σ1 (k + 1)) = _; rw [hL1.2 _ hk1]; exact (wN_GH (g1 _ (mem_getD (d := hd0) hk1))).1)) ?_
          refine a_iadd hx hb dX8_width_66 ?_
          refine cv_i (show (nI (sumN ((trL X i).take (k + 1)) + (wN ((trL X i).getD (k + 1) hd0))) : Int32) = nI (sumN ((trL X i).take (k + 1 + 1))) from (by rw [sumN_take hk1])) ?_
          refine lv_istore (lv' := [(6, .int (nI (sumN ((trL X i).take (k + 1 + 1))))), (5, .int (nI (k + 1))), (4, .int (nI (q9 * ((X.2.2 i).2.2.1.length - 1) / 1000))), (2, .int (nI q9)), (1, .int (nI i)), (0, .ref (ad L 0))]) hx hb dX8_width_67 hl (by decide) rfl (fun ls hl => ?_)
          refine lv_goto (tgt := 47) hx hb dX8_width_69 (by decide) ?_
          exact ih_47 (k + 1) (sumN ((trL X i).take (k + 1))) (by omega) rfl (by rw [hr9, wAt_1 hk, w1, nI_add, ha9, ← st, if_neg (fun z => absurd ((nI_ltI (by omega) (by omega)).mp z) (by omega))]) (by omega) _ _ _ h (lv_sub hl [0, 1, 2, 3, 4, 5] rfl)
    exact LP_47 _ 0 0 (by omega) rfl rfl (Nat.lt_succ_self _) _ _ _ h (lv_sub hl [0, 1, 2, 6, 5, 4] rfl)
  · rw [if_pos (Int32.not_le.mp c_11)] at hp
    refine lv_iload_n hx hb dX8_width_14 rfl (lv_at hl 0 rfl) ?_
    exact e_i8 S hK h hr hlk dX8_width_15 (hp _ _ ⟨rfl, hc⟩)

abbrev rX8_heapsBy : Room := { frames := 2, cells := 0, slots := 0, locals := 48 }
theorem yd_X8_heapsBy : ydV yX8_heapsBy RX8 2 := ⟨rfl, by decide +kernel, by decide +kernel, by decide +kernel⟩
set_option maxHeartbeats 4000000 in
set_option maxRecDepth 100000 in
theorem c_X8_heapsBy (l : Launch) (L : Lay) (σ : Me) {X : SS} {hh : List SS} {t : List Int32} (hc : MC σ X hh t) (hX : GX X) {d : Nat} (hd : d < 3) (f : Int32) : Mg8 l L yX8_heapsBy (Cond.code yX8_heapsBy cX8_heapsBy 4 (some FieldType.int) :: qA) rX8_heapsBy [.ref (ad L 0), .int (nI d), .int f] σ (fun r u => r = some (.int (nI (ptog f ((srt (X.2.2 d).2.2.1).map hunit)).length)) ∧ MC u X hh t) := by
  refine Mr8_ofW (by decide) (Nat.le_of_ble_eq_true rfl) ?_
  intro p e s m args below meth c ls post hp hI S hr hlk hK h hl
  have hx := S.1
  have hb := S.2.1
  have hl : lv_has ls 4 [(0, .ref (ad L 0)), (1, .int (nI d)), (2, .int f)] := hl
  obtain ⟨la, lb, lc, ld⟩ := (hX.1 d hd).1
  refine lv_aload_n hx hb dX8_heapsBy_0 rfl (lv_at hl 0 rfl) ?_
  refine lv_iconst (v := (nI 0)) hx hb dX8_heapsBy_1 (by decide) ?_
  refine p8 2 9 S hI hK h (by decide) rfl (fun _ => rfl) q_605 dX8_heapsBy_2 (fun H locs h => ?_)
  refine lv_aload_n hx hb dX8_heapsBy_5 rfl (lv_at hl 0 rfl) ?_
  refine lv_iload_n hx hb dX8_heapsBy_6 rfl (lv_at hl 1 rfl) ?_
  refine q_VR8 S hI hK h [.int (nI d)] (c_X8_putValuesInOrder l L (mu σ 0 2 (nI 0)) (by rw [mu_r (by omega)]; exact hc.1) hd lb) q_759 q_761 qs_29 q_10 q_762 yd_X8_putValuesInOrder rfl ⟨⟨rfl, rfl⟩, ⟨(Nat.le_of_ble_eq_true rfl), (Nat.le_of_ble_eq_true rfl)⟩, Nat.le_refl _, Nat.le_refl _⟩ rfl (Nat.le_of_ble_eq_true rfl) hl.1 dX8_heapsBy_7 (fun σ1 H locs hp9 h => ?_)
  obtain ⟨hOV, ho1⟩ := hp9
  have hc1 := MC_8 (MC_t hc (Ot.many (v := nI 0))) ho1
  have hL0 : HL σ1 [] := HL_8 HL.nil ho1
  have hsl := srt_len (V := (X.2.2 d).2.2.1)
  refine lv_iconst (v := (nI 0)) hx hb dX8_heapsBy_10 (by decide) ?_
  refine lv_istore_n (lv' := [(3, .int (nI 0)), (0, .ref (ad L 0)), (1, .int (nI d)), (2, .int f)]) hx hb dX8_heapsBy_11 rfl hl (by decide) rfl (fun ls hl => ?_)
  have LP_12 : ∀ (n_12 : Nat) (j : Nat) (σ2 : Me), (j ≤ (X.2.2 d).2.2.1.length) → (HL σ2 (((srt (X.2.2 d).2.2.1).take j).map hunit)) → (Ot σ1 σ2) → (X.2.2 d).2.2.1.length - j < n_12 → ∀ (H : Heap) (locs : List Loc) (ls : Array Slot), Hd8 L s.heap H σ2 locs → lv_has ls 4 [(3, .int (nI j)), (2, .int f), (1, .int (nI d)), (0, .ref (ad L 0))] → W p l e rX8_heapsBy s m args below meth c H locs 0 0 (MQ below (Qg post (bs8 L) (Aw8 L)) args s 0 0 (Aw8 L)) (F0 m 12 ls []) := by
    intro n_12
    induction n_12 with
    | zero => intro j σ2; intros; omega
    | succ n_12 ih_12 =>
      intro j σ2 hj hL hO hm_12 H locs ls h hl
      have hll : (((srt (X.2.2 d).2.2.1).take j).map hunit).length = j := by rw [List.length_map, List.length_take]; omega
      have hc2 := MC_t hc1 hO
      have r8 : ∀ i9, σ2 8 i9 = σ1 8 i9 := fun i9 => hO 8 i9 (by omega) (by omega) (by omega) (by omega) (by omega)
      refine lv_iload_n hx hb dX8_heapsBy_12 rfl (lv_at hl 0 rfl) ?_
      refine lv_aload_n hx hb dX8_heapsBy_13 rfl (lv_at hl 3 rfl) ?_
      refine lv_iload_n hx hb dX8_heapsBy_14 rfl (lv_at hl 2 rfl) ?_
      refine lv_iconst (v := (nI 2)) hx hb dX8_heapsBy_15 (by decide) ?_
      refine q_V18 S hI hK h [.int (nI d), .int (nI 2)] (c_X8_part l L σ2 (d := d) (q := 2) (by omega)) q_657 q_659 qs_13 q_10 q_660 yd_X8_part rfl ⟨⟨rfl, rfl⟩, ⟨(Nat.le_of_ble_eq_true rfl), (Nat.le_of_ble_eq_true rfl)⟩, Nat.le_refl _, Nat.le_refl _⟩ rfl (Nat.le_of_ble_eq_true rfl) hl.1 dX8_heapsBy_16 (fun H locs h => ?_)
      refine cv_i (show (σ2 1 (2 + 1024 * d + 2) : Int32) = nI ((X.2.2 d).2.2.1.length) from (hc2.1.2.2 d hd).2.2.1) ?_
      refine b_icmp_ge (tgt := 51) hx hb dX8_heapsBy_19 (by decide) (by omega) (by omega) (fun c_19 => ?_) (fun c_19 => ?_)
      · have e4 : j = (X.2.2 d).2.2.1.length := by omega
        refine lv_aload_n hx hb dX8_heapsBy_51 rfl (lv_at hl 3 rfl) ?_
        refine lv_iload_n hx hb dX8_heapsBy_52 rfl (lv_at hl 1 rfl) ?_
        refine q_VR8 S hI hK h [.int f] (c_X8_putTogether l L σ2 hL (by omega) f) q_705 q_707 qs_24 q_10 q_708 yd_X8_putTogether rfl ⟨⟨rfl, rfl⟩, ⟨(Nat.le_of_ble_eq_true rfl), (Nat.le_of_ble_eq_true rfl)⟩, Nat.le_refl _, Nat.le_refl _⟩ rfl (Nat.le_of_ble_eq_true rfl) hl.1 dX8_heapsBy_53 (fun σ3 H locs hp9 h => ?_)
        obtain ⟨hL3, hO3⟩ := hp9
        refine lv_aload_n hx hb dX8_heapsBy_56 rfl (lv_at hl 3 rfl) ?_
        refine g8 (v := (.int (σ3 0 2))) S hK h 9 (by decide) rfl rfl q_605 dX8_heapsBy_57 ?_
        refine cv_i (show (σ3 0 2 : Int32) = nI (ptog f ((srt (X.2.2 d).2.2.1).map hunit)).length from (by rw [e4, ← hsl, List.take_length] at hL3; exact hL3.1)) ?_
        exact e_i8 S hK h hr hlk dX8_heapsBy_60 (hp _ _ ⟨rfl, MC_t hc2 hO3⟩)
      · refine lv_aload_n hx hb dX8_heapsBy_22 rfl (lv_at hl 3 rfl) ?_
        refine lv_iconst (v := (nI 1)) hx hb dX8_heapsBy_23 (by decide) ?_
        refine lv_aload_n hx hb dX8_heapsBy_24 rfl (lv_at hl 3 rfl) ?_
        refine g8 (v := (.ref (ad L 8))) S hK h 10 (by decide) rfl rfl q_606 dX8_heapsBy_25 ?_
        refine lv_iload_n hx hb dX8_heapsBy_28 rfl (lv_at hl 0 rfl) ?_
        refine g8_el (n := 200) S hK h (by decide) rfl (by omega) dX8_heapsBy_29 ?_
        refine cv_i (show (σ2 8 j : Int32) = (srt (X.2.2 d).2.2.1).getD j 0 from ((r8 j).trans (hOV j (by omega)))) ?_
        refine lv_aload_n hx hb dX8_heapsBy_30 rfl (lv_at hl 3 rfl) ?_
        refine g8 (v := (.ref (ad L 8))) S hK h 10 (by decide) rfl rfl q_606 dX8_heapsBy_31 ?_
        refine lv_iload_n hx hb dX8_heapsBy_34 rfl (lv_at hl 0 rfl) ?_
        refine g8_el (n := 200) S hK h (by decide) rfl (by omega) dX8_heapsBy_35 ?_
        refine cv_i (show (σ2 8 j : Int32) = (srt (X.2.2 d).2.2.1).getD j 0 from ((r8 j).trans (hOV j (by omega)))) ?_
        refine lv_aload_n hx hb dX8_heapsBy_36 rfl (lv_at hl 3 rfl) ?_
        refine g8 (v := (.ref (ad L 8))) S hK h 10 (by decide) rfl rfl q_606 dX8_heapsBy_37 ?_
        refine lv_iload_n hx hb dX8_heapsBy_40 rfl (lv_at hl 0 rfl) ?_
        refine g8_el (n := 200) S hK h (by decide) rfl (by omega) dX8_heapsBy_41 ?_
        refine cv_i (show (σ2 8 j : Int32) = (srt (X.2.2 d).2.2.1).getD j 0 from ((r8 j).trans (hOV j (by omega)))) ?_
        refine q_V08 S hI hK h [.int (nI 1), .int ((srt (X.2.2 d).2.2.1).getD j 0), .int ((srt (X.2.2 d).2.2.1).getD j 0), .int ((srt (X.2.2 d).2.2.1).getD j 0)] (c_X8_takeHeap l L σ2 (hL.1.trans (congrArg nI hll)) (by omega) (nI 1) ((srt (X.2.2 d).2.2.1).getD j 0) ((srt (X.2.2 d).2.2.1).getD j 0) ((srt (X.2.2 d).2.2.1).getD j 0)) q_689 q_691 qs_20 q_10 q_692 yd_X8_takeHeap rfl ⟨⟨rfl, rfl⟩, ⟨(Nat.le_of_ble_eq_true rfl), (Nat.le_of_ble_eq_true rfl)⟩, Nat.le_refl _, Nat.le_refl _⟩ rfl (Nat.le_of_ble_eq_true rfl) hl.1 dX8_heapsBy_42 (fun H locs h => ?_)
        have h := h.to (show tk8 σ2 j (nI 1, (srt (X.2.2 d).2.2.1).getD j 0, (srt (X.2.2 d).2.2.1).getD j 0, (srt (X.2.2 d).2.2.1).getD j 0) = tk8 σ2 j (hunit ((srt (X.2.2 d).2.2.1).getD j 0)) from (by rw [show nI 1 = (1 : Int32) from by decide +kernel]; rfl))
        refine lv_iinc (v := (nI (j + 1))) (lv' := [(3, .int (nI (j + 1))), (2, .int f), (1, .int (nI d)), (0, .ref (ad L 0))]) hx hb dX8_heapsBy_45 hl (k := 0) rfl (iinc_1 _) (by decide) rfl (fun ls hl => ?_)
        refine lv_goto (tgt := 12) hx hb dX8_heapsBy_48 (by decide) ?_
        exact ih_12 (j + 1) (tk8 σ2 j (hunit ((srt (X.2.2 d).2.2.1).getD j 0))) (by omega) (by have q9 := hL.tk (x := hunit ((srt (X.2.2 d).2.2.1).getD j 0)); rw [hll, show [hunit ((srt (X.2.2 d).2.2.1).getD j 0)] = [(srt (X.2.2 d).2.2.1).getD j 0].map hunit from rfl, ← List.map_append, take_snoc (d := 0) (by omega)] at q9; exact q9) (hO.tr Ot.tk) (by omega) _ _ _ h (lv_sub hl [0, 1, 2, 3] rfl)
  exact LP_12 _ 0 σ1 (by omega) (by rw [List.take_zero]; exact hL0) Ot.rf (Nat.lt_succ_self _) _ _ _ h (lv_sub hl [0, 3, 2, 1] rfl)

abbrev rX8_settingFor : Room := { frames := 3, cells := 0, slots := 0, locals := 71 }
theorem yd_X8_settingFor : ydV yX8_settingFor RX8 2 := ⟨rfl, by decide +kernel, by decide +kernel, by decide +kernel⟩
set_option maxHeartbeats 4000000 in
set_option maxRecDepth 100000 in
theorem c_X8_settingFor (l : Launch) (L : Lay) (σ : Me) {X : SS} {hh : List SS} {t : List Int32} (hc : MC σ X hh t) (hX : GX X) (hH : ∀ Y ∈ hh, GX Y) (x y : Int32) : Mg8 l L yX8_settingFor (Cond.code yX8_settingFor cX8_settingFor 4 (some FieldType.int) :: qA) rX8_settingFor [.ref (ad L 0), .int x, .int y] σ (fun r u => r = some (.int (mSfo X x y)) ∧ MC u X hh t) := by
  refine Mr8_ofW (by decide) (Nat.le_of_ble_eq_true rfl) ?_
  intro p e s m args below meth c ls post hp hI S hr hlk hK h hl
  have hx := S.1
  have hb := S.2.1
  have hl : lv_has ls 4 [(0, .ref (ad L 0)), (1, .int x), (2, .int y)] := hl
  unfold mSfo at hp
  refine lv_iload_n hx hb dX8_settingFor_0 rfl (lv_at hl 1 rfl) ?_
  refine q_S18 S hI hK h [.int x] (c_X8_isDigest l L σ x) q_646 q_647 q_10 q_648 yd_X8_isDigest rfl ⟨⟨rfl, rfl⟩, ⟨(Nat.le_of_ble_eq_true rfl), (Nat.le_of_ble_eq_true rfl)⟩, Nat.le_refl _, Nat.le_refl _⟩ rfl (Nat.le_of_ble_eq_true rfl) hl.1 dX8_settingFor_1 (fun H locs h => ?_)
  refine z_eq (tgt := 17) hx hb dX8_settingFor_4 (by decide) (fun c_4 => ?_) (fun c_4 => ?_)
  · rw [if_pos c_4] at hp
    refine lv_ldc (v := (-1000001 : Int32)) hx hb S.2.2.2.1 (S.2.2.2.2 _ q_652) dX8_settingFor_17 ?_
    exact e_i8 S hK h hr hlk dX8_settingFor_19 (hp _ _ ⟨rfl, hc⟩)
  · rw [if_neg (fun q => q c_4)] at hp
    obtain ⟨i, -, hi2, rfl⟩ := rng_nat (a := 0) (b := 2) (by omega) (by omega) c_4
    rw [nI_clamp (show i < 2 ^ 31 by omega)] at hp
    have hi : i < 3 := by omega
    have hGi := hX.1 i hi
    obtain ⟨m1, m2, m3, m4, m5, m6, m7⟩ := hc.1.2.2 i hi
    obtain ⟨la, lb, lc, ld⟩ := hGi.1
    refine lv_iload_n hx hb dX8_settingFor_7 rfl (lv_at hl 2 rfl) ?_
    refine lv_iconst (v := (nI 1)) hx hb dX8_settingFor_8 (by decide) ?_
    refine lv_bipush (v := (nI 60)) hx hb dX8_settingFor_9 (by decide) ?_
    refine q_S18 S hI hK h [.int y, .int (nI 1), .int (nI 60)] (c_X8_within l L σ y (nI 1) (nI 60)) q_649 q_650 q_10 q_651 yd_X8_within rfl ⟨⟨rfl, rfl⟩, ⟨(Nat.le_of_ble_eq_true rfl), (Nat.le_of_ble_eq_true rfl)⟩, Nat.le_refl _, Nat.le_refl _⟩ rfl (Nat.le_of_ble_eq_true rfl) hl.1 dX8_settingFor_11 (fun H locs h => ?_)
    refine z_ne (tgt := 20) hx hb dX8_settingFor_14 (by decide) (fun c_14 => ?_) (fun c_14 => ?_)
    · rw [if_neg (fun q => q c_14)] at hp
      refine lv_iconst (v := (nI 1)) hx hb dX8_settingFor_20 (by decide) ?_
      refine lv_istore_n (lv' := [(3, .int (nI 1)), (0, .ref (ad L 0)), (1, .int (nI i)), (2, .int y)]) hx hb dX8_settingFor_21 rfl hl (by decide) rfl (fun ls hl => ?_)
      have LP_22 : ∀ (n_22 : Nat) (f9 : Nat) (n : Nat) (σ1 : Me), (f9 + n = 61) → (MC σ1 X hh t) → (sfM (X.2.2 i).2.2.1 y 60 1 = sfM (X.2.2 i).2.2.1 y n f9) → n < n_22 → ∀ (H : Heap) (locs : List Loc) (ls : Array Slot), Hd8 L s.heap H σ1 locs → lv_has ls 4 [(3, .int (nI f9)), (2, .int y), (1, .int (nI i)), (0, .ref (ad L 0))] → W p l e rX8_settingFor s m args below meth c H locs 0 0 (MQ below (Qg post (bs8 L) (Aw8 L)) args s 0 0 (Aw8 L)) (F0 m 22 ls []) := by
        intro n_22
        induction n_22 with
        | zero => intro f9 n σ1; intros; omega
        | succ n_22 ih_22 =>
          intro f9 n σ1 hg hc1 hr9 hm_22 H locs ls h hl
          refine lv_iload_n hx hb dX8_settingFor_22 rfl (lv_at hl 0 rfl) ?_
          refine lv_bipush (v := (nI 60)) hx hb dX8_settingFor_23 (by decide) ?_
          refine b_icmp_gt (tgt := 46) hx hb dX8_settingFor_25 (by decide) (by omega) (by omega) (fun c_25 => ?_) (fun c_25 => ?_)
          · rw [hr9, show n = 0 by omega, sfM] at hp
            refine lv_ldc (v := (-1000004 : Int32)) hx hb S.2.2.2.1 (S.2.2.2.2 _ q_741) dX8_settingFor_46 ?_
            exact e_i8 S hK h hr hlk dX8_settingFor_48 (hp _ _ ⟨rfl, hc1⟩)
          · obtain ⟨n1, rfl⟩ : ∃ n1, n = n1 + 1 := ⟨n - 1, by omega⟩
            refine lv_aload_n hx hb dX8_settingFor_28 rfl (lv_at hl 3 rfl) ?_
            refine lv_iload_n hx hb dX8_settingFor_29 rfl (lv_at hl 2 rfl) ?_
            refine lv_iload_n hx hb dX8_settingFor_30 rfl (lv_at hl 0 rfl) ?_
            refine q_VR8 S hI hK h [.int (nI i), .int (nI f9)] (c_X8_heapsBy l L σ1 hc1 hX hi (nI f9)) q_814 q_816 qs_36 q_10 q_817 yd_X8_heapsBy rfl ⟨⟨rfl, rfl⟩, ⟨(Nat.le_of_ble_eq_true rfl), (Nat.le_of_ble_eq_true rfl)⟩, Nat.le_refl _, Nat.le_refl _⟩ rfl (Nat.le_of_ble_eq_true rfl) hl.1 dX8_settingFor_31 (fun σ2 H locs hp9 h => ?_)
            have hc2 := hp9
            refine lv_iload_n hx hb dX8_settingFor_34 rfl (lv_at hl 1 rfl) ?_
            refine lv_icmp_lt (tgt := 40) hx hb dX8_settingFor_35 (by decide) (fun c_35 => ?_) (fun c_35 => ?_)
            · refine lv_iinc (v := (nI (f9 + 1))) (lv' := [(3, .int (nI (f9 + 1))), (2, .int y), (1, .int (nI i)), (0, .ref (ad L 0))]) hx hb dX8_settingFor_40 hl (k := 0) rfl (iinc_1 _) (by decide) rfl (fun ls hl => ?_)
              refine lv_goto (tgt := 22) hx hb dX8_settingFor_43 (by decide) ?_
              exact ih_22 (f9 + 1) n1 σ2 (by omega) hc2 (by rw [hr9, sfM, if_pos c_35]) (by omega) _ _ _ h (lv_sub hl [0, 1, 2, 3] rfl)
            · rw [hr9, sfM, if_neg c_35] at hp
              refine lv_iload_n hx hb dX8_settingFor_38 rfl (lv_at hl 0 rfl) ?_
              exact e_i8 S hK h hr hlk dX8_settingFor_39 (hp _ _ ⟨rfl, hc2⟩)
      exact LP_22 _ 1 60 σ (by omega) hc rfl (Nat.lt_succ_self _) _ _ _ h (lv_sub hl [0, 3, 2, 1] rfl)
    · rw [if_pos c_14] at hp
      refine lv_ldc (v := (-1000001 : Int32)) hx hb S.2.2.2.1 (S.2.2.2.2 _ q_652) dX8_settingFor_17 ?_
      exact e_i8 S hK h hr hlk dX8_settingFor_19 (hp _ _ ⟨rfl, hc⟩)

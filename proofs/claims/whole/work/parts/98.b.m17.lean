abbrev rX8_quantile : Room := { frames := 5, cells := 0, slots := 0, locals := 109 }
theorem yd_X8_quantile : ydV yX8_quantile RX8 2 := ⟨rfl, by decide +kernel, by decide +kernel, by decide +kernel⟩
set_option maxHeartbeats 4000000 in
set_option maxRecDepth 100000 in
theorem c_X8_quantile (l : Launch) (L : Lay) (σ : Me) {X : SS} {hh : List SS} {t : List Int32} (hc : MC σ X hh t) (hX : GX X) (hH : ∀ Y ∈ hh, GX Y) (hRD : ∀ i, i < 3 → RD (X.2.2 i)) (x q : Int32) : Mg8 l L yX8_quantile (Cond.code yX8_quantile cX8_quantile 4 (some FieldType.int) :: qA) rX8_quantile [.ref (ad L 0), .int x, .int q] σ (fun r u => r = some (.int (mQua X x q)) ∧ MC u X hh t) := by
  refine Mr8_ofW (by decide) (Nat.le_of_ble_eq_true rfl) ?_
  intro p e s m args below meth c ls post hp hI S hr hlk hK h hl
  have hx := S.1
  have hb := S.2.1
  have hl : lv_has ls 4 [(0, .ref (ad L 0)), (1, .int x), (2, .int q)] := hl
  unfold mQua at hp
  refine lv_aload_n hx hb dX8_quantile_0 rfl (lv_at hl 0 rfl) ?_
  refine lv_iload_n hx hb dX8_quantile_1 rfl (lv_at hl 1 rfl) ?_
  refine lv_iload_n hx hb dX8_quantile_2 rfl (lv_at hl 2 rfl) ?_
  refine lv_sipush (v := (nI 1000)) hx hb dX8_quantile_3 (by decide) ?_
  refine q_V18 S hI hK h [.int x, .int q, .int (nI 1000)] (c_X8_whyNoQuantile l L σ hc.1 hX.I x q 1000) q_775 q_777 qs_32 q_10 q_778 yd_X8_whyNoQuantile rfl ⟨⟨rfl, rfl⟩, ⟨(Nat.le_of_ble_eq_true rfl), (Nat.le_of_ble_eq_true rfl)⟩, Nat.le_refl _, Nat.le_refl _⟩ rfl (Nat.le_of_ble_eq_true rfl) hl.1 dX8_quantile_6 (fun H locs h => ?_)
  refine lv_istore_n (lv' := [(3, .int (whyQ X x q 1000)), (0, .ref (ad L 0)), (1, .int x), (2, .int q)]) hx hb dX8_quantile_9 rfl hl (by decide) rfl (fun ls hl => ?_)
  refine lv_iload_n hx hb dX8_quantile_10 rfl (lv_at hl 0 rfl) ?_
  refine lv_if_ge (tgt := 16) hx hb dX8_quantile_11 (by decide) (fun c_11 => ?_) (fun c_11 => ?_)
  · rw [if_neg (Int32.not_lt.mpr c_11)] at hp
    obtain ⟨i, hi, rfl, c9, hV9⟩ := whyQ_0 (Int32.not_lt.mpr c_11)
    obtain ⟨q9, -, hq9, rfl⟩ := rng_nat (a := 0) (b := 1000) (by omega) (by omega) c9
    rw [nI_clamp (show i < 2 ^ 31 by omega), nI_clamp (show q9 < 2 ^ 31 by omega)] at hp
    have hGi := hX.1 i hi
    obtain ⟨la, lb, lc, ld⟩ := hGi.1
    refine lv_aload_n hx hb dX8_quantile_16 rfl (lv_at hl 1 rfl) ?_
    refine lv_iload_n hx hb dX8_quantile_17 rfl (lv_at hl 2 rfl) ?_
    refine q_VR8 S hI hK h [.int (nI i)] (c_X8_findAll l L σ hc hX hi) q_780 q_782 qs_33 q_10 q_783 yd_X8_findAll rfl ⟨⟨rfl, rfl⟩, ⟨(Nat.le_of_ble_eq_true rfl), (Nat.le_of_ble_eq_true rfl)⟩, Nat.le_refl _, Nat.le_refl _⟩ rfl (Nat.le_of_ble_eq_true rfl) hl.1 dX8_quantile_18 (fun σ1 H locs hp9 h => ?_)
    obtain ⟨hL1, hOV, hc1⟩ := hp9
    have m3 := (hc1.1.2.2 i hi).2.2.1
    obtain ⟨L0, G0, hQ, hV0, hVl⟩ := QF_of hGi (hRD i hi) hV9
    have g4 := trL_len hX.I hi
    refine lv_aload_n hx hb dX8_quantile_21 rfl (lv_at hl 1 rfl) ?_
    refine lv_aload_n hx hb dX8_quantile_22 rfl (lv_at hl 1 rfl) ?_
    refine lv_iload_n hx hb dX8_quantile_23 rfl (lv_at hl 2 rfl) ?_
    refine q_V18 S hI hK h [.int (nI i)] (c_X8_weightOf l L σ1 (d := i) (by omega)) q_653 q_655 qs_12 q_10 q_656 yd_X8_weightOf rfl ⟨⟨rfl, rfl⟩, ⟨(Nat.le_of_ble_eq_true rfl), (Nat.le_of_ble_eq_true rfl)⟩, Nat.le_refl _, Nat.le_refl _⟩ rfl (Nat.le_of_ble_eq_true rfl) hl.1 dX8_quantile_24 (fun H locs h => ?_)
    refine cv_i (show (σ1 1 (2 + 1024 * i + 2) : Int32) = nI ((X.2.2 i).2.2.1.length) from m3) ?_
    refine lv_iload_n hx hb dX8_quantile_27 rfl (lv_at hl 3 rfl) ?_
    refine q_V18 S hI hK h [.int (nI ((X.2.2 i).2.2.1.length)), .int (nI q9)] (c_X8_quantileBy l L σ1 hL1 hOV hQ srt_len hV0 hVl (by omega) (q9 := q9) (by omega)) q_784 q_786 qs_34 q_10 q_787 yd_X8_quantileBy rfl ⟨⟨rfl, rfl⟩, ⟨(Nat.le_of_ble_eq_true rfl), (Nat.le_of_ble_eq_true rfl)⟩, Nat.le_refl _, Nat.le_refl _⟩ rfl (Nat.le_of_ble_eq_true rfl) hl.1 dX8_quantile_28 (fun H locs h => ?_)
    exact e_i8 S hK h hr hlk dX8_quantile_31 (hp _ _ ⟨by rw [qAt_n hQ hq9], hc1⟩)
  · rw [if_pos (Int32.not_le.mp c_11)] at hp
    refine lv_iload_n hx hb dX8_quantile_14 rfl (lv_at hl 0 rfl) ?_
    exact e_i8 S hK h hr hlk dX8_quantile_15 (hp _ _ ⟨rfl, hc⟩)

abbrev rX8_worst : Room := { frames := 5, cells := 0, slots := 0, locals := 109 }
theorem yd_X8_worst : ydV yX8_worst RX8 2 := ⟨rfl, by decide +kernel, by decide +kernel, by decide +kernel⟩
set_option maxHeartbeats 4000000 in
set_option maxRecDepth 100000 in
theorem c_X8_worst (l : Launch) (L : Lay) (σ : Me) {X : SS} {hh : List SS} {t : List Int32} (hc : MC σ X hh t) (hX : GX X) (hH : ∀ Y ∈ hh, GX Y) (hRD : ∀ i, i < 3 → RD (X.2.2 i)) (x q : Int32) : Mg8 l L yX8_worst (Cond.code yX8_worst cX8_worst 9 (some FieldType.int) :: qA) rX8_worst [.ref (ad L 0), .int x, .int q] σ (fun r u => r = some (.int (mWor X x q)) ∧ MC u X hh t) := by
  refine Mr8_ofW (by decide) (Nat.le_of_ble_eq_true rfl) ?_
  intro p e s m args below meth c ls post hp hI S hr hlk hK h hl
  have hx := S.1
  have hb := S.2.1
  have hl : lv_has ls 9 [(0, .ref (ad L 0)), (1, .int x), (2, .int q)] := hl
  unfold mWor at hp
  refine lv_aload_n hx hb dX8_worst_0 rfl (lv_at hl 0 rfl) ?_
  refine lv_iload_n hx hb dX8_worst_1 rfl (lv_at hl 1 rfl) ?_
  refine lv_iload_n hx hb dX8_worst_2 rfl (lv_at hl 2 rfl) ?_
  refine lv_iconst (v := (nI 1)) hx hb dX8_worst_3 (by decide) ?_
  refine q_V18 S hI hK h [.int x, .int q, .int (nI 1)] (c_X8_whyNoQuantile l L σ hc.1 hX.I x q 1) q_775 q_777 qs_32 q_10 q_778 yd_X8_whyNoQuantile rfl ⟨⟨rfl, rfl⟩, ⟨(Nat.le_of_ble_eq_true rfl), (Nat.le_of_ble_eq_true rfl)⟩, Nat.le_refl _, Nat.le_refl _⟩ rfl (Nat.le_of_ble_eq_true rfl) hl.1 dX8_worst_4 (fun H locs h => ?_)
  refine lv_istore_n (lv' := [(3, .int (whyQ X x q 1)), (0, .ref (ad L 0)), (1, .int x), (2, .int q)]) hx hb dX8_worst_7 rfl hl (by decide) rfl (fun ls hl => ?_)
  refine lv_iload_n hx hb dX8_worst_8 rfl (lv_at hl 0 rfl) ?_
  refine lv_if_ge (tgt := 14) hx hb dX8_worst_9 (by decide) (fun c_9 => ?_) (fun c_9 => ?_)
  · rw [if_neg (Int32.not_lt.mpr c_9)] at hp
    obtain ⟨i, hi, rfl, c9, hV9⟩ := whyQ_0 (Int32.not_lt.mpr c_9)
    obtain ⟨q9, -, hq9, rfl⟩ := rng_nat (a := 0) (b := 1) (by omega) (by omega) c9
    rw [nI_clamp (show i < 2 ^ 31 by omega), nI_clamp (show q9 < 2 ^ 31 by omega)] at hp
    have hGi := hX.1 i hi
    obtain ⟨la, lb, lc, ld⟩ := hGi.1
    refine lv_aload_n hx hb dX8_worst_14 rfl (lv_at hl 1 rfl) ?_
    refine lv_iload_n hx hb dX8_worst_15 rfl (lv_at hl 2 rfl) ?_
    refine q_VR8 S hI hK h [.int (nI i)] (c_X8_findAll l L σ hc hX hi) q_780 q_782 qs_33 q_10 q_783 yd_X8_findAll rfl ⟨⟨rfl, rfl⟩, ⟨(Nat.le_of_ble_eq_true rfl), (Nat.le_of_ble_eq_true rfl)⟩, Nat.le_refl _, Nat.le_refl _⟩ rfl (Nat.le_of_ble_eq_true rfl) hl.1 dX8_worst_16 (fun σ1 H locs hp9 h => ?_)
    obtain ⟨hL1, hOV, hc1⟩ := hp9
    have m3 := (hc1.1.2.2 i hi).2.2.1
    obtain ⟨L0, G0, hQ, hV0, hVl⟩ := QF_of hGi (hRD i hi) hV9
    have g4 := trL_len hX.I hi
    refine lv_aload_n hx hb dX8_worst_19 rfl (lv_at hl 1 rfl) ?_
    refine lv_iload_n hx hb dX8_worst_20 rfl (lv_at hl 2 rfl) ?_
    refine q_V18 S hI hK h [.int (nI i)] (c_X8_weightOf l L σ1 (d := i) (by omega)) q_653 q_655 qs_12 q_10 q_656 yd_X8_weightOf rfl ⟨⟨rfl, rfl⟩, ⟨(Nat.le_of_ble_eq_true rfl), (Nat.le_of_ble_eq_true rfl)⟩, Nat.le_refl _, Nat.le_refl _⟩ rfl (Nat.le_of_ble_eq_true rfl) hl.1 dX8_worst_21 (fun H locs h => ?_)
    refine cv_i (show (σ1 1 (2 + 1024 * i + 2) : Int32) = nI ((X.2.2 i).2.2.1.length) from m3) ?_
    refine lv_istore (lv' := [(4, .int (nI ((X.2.2 i).2.2.1.length))), (3, .int (whyQ X (nI i) (nI q9) 1)), (0, .ref (ad L 0)), (1, .int (nI i)), (2, .int (nI q9))]) hx hb dX8_worst_24 hl (by decide) rfl (fun ls hl => ?_)
    refine lv_iconst (v := (nI 0)) hx hb dX8_worst_26 (by decide) ?_
    refine lv_istore (lv' := [(5, .int (nI 0)), (4, .int (nI ((X.2.2 i).2.2.1.length))), (3, .int (whyQ X (nI i) (nI q9) 1)), (0, .ref (ad L 0)), (1, .int (nI i)), (2, .int (nI q9))]) hx hb dX8_worst_27 hl (by decide) rfl (fun ls hl => ?_)
    refine lv_iconst (v := (-1)) hx hb dX8_worst_29 (by decide) ?_
    refine lv_istore (lv' := [(6, .int (-1)), (5, .int (nI 0)), (4, .int (nI ((X.2.2 i).2.2.1.length))), (3, .int (whyQ X (nI i) (nI q9) 1)), (0, .ref (ad L 0)), (1, .int (nI i)), (2, .int (nI q9))]) hx hb dX8_worst_30 hl (by decide) rfl (fun ls hl => ?_)
    refine lv_iconst (v := (nI 0)) hx hb dX8_worst_32 (by decide) ?_
    refine lv_istore (lv' := [(7, .int (nI 0)), (6, .int (-1)), (5, .int (nI 0)), (4, .int (nI ((X.2.2 i).2.2.1.length))), (3, .int (whyQ X (nI i) (nI q9) 1)), (0, .ref (ad L 0)), (1, .int (nI i)), (2, .int (nI q9))]) hx hb dX8_worst_33 hl (by decide) rfl (fun ls hl => ?_)
    have LP_35 : ∀ (n_35 : Nat) (k : Nat), (k ≤ 11) → 11 - k < n_35 → ∀ (H : Heap) (locs : List Loc) (ls : Array Slot), Hd8 L s.heap H σ1 locs → lv_has ls 9 [(7, .int (nI (100 * k))), (6, .int ((wrS (trL X i) (srt (X.2.2 i).2.2.1) k).1)), (5, .int ((wrS (trL X i) (srt (X.2.2 i).2.2.1) k).2)), (4, .int (nI ((X.2.2 i).2.2.1.length))), (2, .int (nI q9)), (1, .int (nI i)), (0, .ref (ad L 0))] → W p l e rX8_worst s m args below meth c H locs 0 0 (MQ below (Qg post (bs8 L) (Aw8 L)) args s 0 0 (Aw8 L)) (F0 m 35 ls []) := by
      intro n_35
      induction n_35 with
      | zero => intro k; intros; omega
      | succ n_35 ih_35 =>
        intro k hk hm_35 H locs ls h hl
        refine lv_iload hx hb dX8_worst_35 (lv_at hl 0 rfl) ?_
        refine lv_sipush (v := (nI 1000)) hx hb dX8_worst_37 (by decide) ?_
        refine b_icmp_gt (tgt := 115) hx hb dX8_worst_40 (by decide) (by omega) (by omega) (fun c_40 => ?_) (fun c_40 => ?_)
        · have e11 : k = 11 := by omega
          refine lv_iload_n hx hb dX8_worst_115 rfl (lv_at hl 4 rfl) ?_
          refine b_if_ne (tgt := 124) hx hb dX8_worst_116 (by decide) (by omega) (fun c_116 => ?_) (fun c_116 => ?_)
          · rw [if_neg (show ¬ q9 = 0 by omega)] at hp
            refine lv_iload hx hb dX8_worst_124 (lv_at hl 1 rfl) ?_
            exact e_i8 S hK h hr hlk dX8_worst_126 (hp _ _ ⟨by rw [e11], hc1⟩)
          · rw [if_pos c_116] at hp
            refine lv_iload hx hb dX8_worst_119 (lv_at hl 2 rfl) ?_
            refine lv_goto (tgt := 126) hx hb dX8_worst_121 (by decide) ?_
            exact e_i8 S hK h hr hlk dX8_worst_126 (hp _ _ ⟨by rw [e11], hc1⟩)
        · refine lv_aload_n hx hb dX8_worst_43 rfl (lv_at hl 6 rfl) ?_
          refine lv_iload hx hb dX8_worst_44 (lv_at hl 3 rfl) ?_
          refine lv_iload hx hb dX8_worst_46 (lv_at hl 0 rfl) ?_
          refine q_V18 S hI hK h [.int (nI ((X.2.2 i).2.2.1.length)), .int (nI (100 * k))] (c_X8_quantileBy l L σ1 hL1 hOV hQ srt_len hV0 hVl (by omega) (q9 := 100 * k) (by omega)) q_784 q_786 qs_34 q_10 q_787 yd_X8_quantileBy rfl ⟨⟨rfl, rfl⟩, ⟨(Nat.le_of_ble_eq_true rfl), (Nat.le_of_ble_eq_true rfl)⟩, Nat.le_refl _, Nat.le_refl _⟩ rfl (Nat.le_of_ble_eq_true rfl) hl.1 dX8_worst_48 (fun H locs h => ?_)
          refine cv_i (show (nI (qV (trL X i) (X.2.2 i).2.2.1.length L0 G0 (100 * k)) : Int32) = qAt (trL X i) (nI (100 * k)) from (qAt_n hQ (by omega)).symm) ?_
          refine lv_aload_n hx hb dX8_worst_51 rfl (lv_at hl 6 rfl) ?_
          refine lv_iload hx hb dX8_worst_52 (lv_at hl 3 rfl) ?_
          refine lv_iload hx hb dX8_worst_54 (lv_at hl 0 rfl) ?_
          refine q_V18 S hI hK h [.int (nI ((X.2.2 i).2.2.1.length)), .int (nI (100 * k))] (c_X8_truthBy l L σ1 hOV rfl hV9 lb (by omega)) q_794 q_796 qs_35 q_10 q_797 yd_X8_truthBy rfl ⟨⟨rfl, rfl⟩, ⟨(Nat.le_of_ble_eq_true rfl), (Nat.le_of_ble_eq_true rfl)⟩, Nat.le_refl _, Nat.le_refl _⟩ rfl (Nat.le_of_ble_eq_true rfl) hl.1 dX8_worst_56 (fun H locs h => ?_)
          refine lv_isub hx hb dX8_worst_59 ?_
          refine lv_istore (lv' := [(8, .int ((qAt (trL X i) (nI (100 * k))) - (trV (srt ((X.2.2 i).2.2.1)) (100 * k)))), (7, .int (nI (100 * k))), (6, .int ((wrS (trL X i) (srt (X.2.2 i).2.2.1) k).1)), (5, .int ((wrS (trL X i) (srt (X.2.2 i).2.2.1) k).2)), (4, .int (nI ((X.2.2 i).2.2.1.length))), (2, .int (nI q9)), (1, .int (nI i)), (0, .ref (ad L 0))]) hx hb dX8_worst_60 hl (by decide) rfl (fun ls hl => ?_)
          refine lv_iload hx hb dX8_worst_62 (lv_at hl 0 rfl) ?_
          refine lv_if_ge (tgt := 73) hx hb dX8_worst_64 (by decide) (fun c_64 => ?_) (fun c_64 => ?_)
          · have hab : (qAt (trL X i) (nI (100 * k)) - trV (srt (X.2.2 i).2.2.1) (100 * k)) = absI (qAt (trL X i) (nI (100 * k)) - trV (srt (X.2.2 i).2.2.1) (100 * k)) := (if_pos c_64).symm
            refine lv_iload hx hb dX8_worst_73 (lv_at hl 0 rfl) ?_
            refine cv_i (show ((qAt (trL X i) (nI (100 * k))) - (trV (srt ((X.2.2 i).2.2.1)) (100 * k)) : Int32) = absI (qAt (trL X i) (nI (100 * k)) - trV (srt (X.2.2 i).2.2.1) (100 * k)) from hab) ?_
            refine lv_istore (lv' := [(8, .int (absI (qAt (trL X i) (nI (100 * k)) - trV (srt (X.2.2 i).2.2.1) (100 * k)))), (7, .int (nI (100 * k))), (6, .int ((wrS (trL X i) (srt (X.2.2 i).2.2.1) k).1)), (5, .int ((wrS (trL X i) (srt (X.2.2 i).2.2.1) k).2)), (4, .int (nI ((X.2.2 i).2.2.1.length))), (2, .int (nI q9)), (1, .int (nI i)), (0, .ref (ad L 0))]) hx hb dX8_worst_75 hl (by decide) rfl (fun ls hl => ?_)
            refine lv_iload hx hb dX8_worst_77 (lv_at hl 0 rfl) ?_
            refine lv_iload hx hb dX8_worst_79 (lv_at hl 2 rfl) ?_
            refine lv_icmp_le (tgt := 89) hx hb dX8_worst_81 (by decide) (fun c_81 => ?_) (fun c_81 => ?_)
            · have w1 : (wrS (trL X i) (srt (X.2.2 i).2.2.1) k).1 = (wrS (trL X i) (srt (X.2.2 i).2.2.1) (k + 1)).1 := by rw [show wrS (trL X i) (srt (X.2.2 i).2.2.1) (k + 1) = if (wrS (trL X i) (srt (X.2.2 i).2.2.1) k).1 < absI (qAt (trL X i) (nI (100 * k)) - trV (srt (X.2.2 i).2.2.1) (100 * k)) then (absI (qAt (trL X i) (nI (100 * k)) - trV (srt (X.2.2 i).2.2.1) (100 * k)), nI (100 * k)) else wrS (trL X i) (srt (X.2.2 i).2.2.1) k from rfl, if_neg (Int32.not_lt.mpr c_81)]
              have w2 : (wrS (trL X i) (srt (X.2.2 i).2.2.1) k).2 = (wrS (trL X i) (srt (X.2.2 i).2.2.1) (k + 1)).2 := by rw [show wrS (trL X i) (srt (X.2.2 i).2.2.1) (k + 1) = if (wrS (trL X i) (srt (X.2.2 i).2.2.1) k).1 < absI (qAt (trL X i) (nI (100 * k)) - trV (srt (X.2.2 i).2.2.1) (100 * k)) then (absI (qAt (trL X i) (nI (100 * k)) - trV (srt (X.2.2 i).2.2.1) (100 * k)), nI (100 * k)) else wrS (trL X i) (srt (X.2.2 i).2.2.1) k from rfl, if_neg (Int32.not_lt.mpr c_81)]
              refine lv_iload hx hb dX8_worst_89 (lv_at hl 3 rfl) ?_
              refine cv_i (show ((wrS (trL X i) (srt (X.2.2 i).2.2.1) k).2 : Int32) = (wrS (trL X i) (srt (X.2.2 i).2.2.1) (k + 1)).2 from w2) ?_
              refine lv_istore (lv' := [(5, .int ((wrS (trL X i) (srt (X.2.2 i).2.2.1) (k + 1)).2)), (8, .int (absI (qAt (trL X i) (nI (100 * k)) - trV (srt (X.2.2 i).2.2.1) (100 * k)))), (7, .int (nI (100 * k))), (6, .int ((wrS (trL X i) (srt (X.2.2 i).2.2.1) k).1)), (4, .int (nI ((X.2.2 i).2.2.1.length))), (2, .int (nI q9)), (1, .int (nI i)), (0, .ref (ad L 0))]) hx hb dX8_worst_91 hl (by decide) rfl (fun ls hl => ?_)
              refine lv_iload hx hb dX8_worst_93 (lv_at hl 1 rfl) ?_
              refine lv_iload hx hb dX8_worst_95 (lv_at hl 3 rfl) ?_
              refine lv_icmp_le (tgt := 105) hx hb dX8_worst_97 (by decide) (fun c_97 => ?_) (fun c_97 => absurd c_97 (fun z => z c_81))
              refine lv_iload hx hb dX8_worst_105 (lv_at hl 3 rfl) ?_
              refine cv_i (show ((wrS (trL X i) (srt (X.2.2 i).2.2.1) k).1 : Int32) = (wrS (trL X i) (srt (X.2.2 i).2.2.1) (k + 1)).1 from w1) ?_
              refine lv_istore (lv' := [(6, .int ((wrS (trL X i) (srt (X.2.2 i).2.2.1) (k + 1)).1)), (5, .int ((wrS (trL X i) (srt (X.2.2 i).2.2.1) (k + 1)).2)), (8, .int (absI (qAt (trL X i) (nI (100 * k)) - trV (srt (X.2.2 i).2.2.1) (100 * k)))), (7, .int (nI (100 * k))), (4, .int (nI ((X.2.2 i).2.2.1.length))), (2, .int (nI q9)), (1, .int (nI i)), (0, .ref (ad L 0))]) hx hb dX8_worst_107 hl (by decide) rfl (fun ls hl => ?_)
              refine lv_iinc (v := (nI (100 * k + 100))) (lv' := [(7, .int (nI (100 * k + 100))), (6, .int ((wrS (trL X i) (srt (X.2.2 i).2.2.1) (k + 1)).1)), (5, .int ((wrS (trL X i) (srt (X.2.2 i).2.2.1) (k + 1)).2)), (8, .int (absI (qAt (trL X i) (nI (100 * k)) - trV (srt (X.2.2 i).2.2.1) (100 * k)))), (4, .int (nI ((X.2.2 i).2.2.1.length))), (2, .int (nI q9)), (1, .int (nI i)), (0, .ref (ad L 0))]) hx hb dX8_worst_109 hl (k := 3) rfl (iinc_k _ 100) (by decide) rfl (fun ls hl => ?_)
              have hl : lv_has ls 9 [(7, .int (nI (100 * (k + 1)))), (6, .int ((wrS (trL X i) (srt (X.2.2 i).2.2.1) (k + 1)).1)), (5, .int ((wrS (trL X i) (srt (X.2.2 i).2.2.1) (k + 1)).2)), (8, .int (absI (qAt (trL X i) (nI (100 * k)) - trV (srt (X.2.2 i).2.2.1) (100 * k)))), (4, .int (nI ((X.2.2 i).2.2.1.length))), (2, .int (nI q9)), (1, .int (nI i)), (0, .ref (ad L 0))] := by rw [show (.int (nI (100 * k + 100)) : Value) = .int (nI (100 * (k + 1))) from (by rw [show 100 * k + 100 = 100 * (k + 1) by omega])] at hl; exact hl
              refine lv_goto (tgt := 35) hx hb dX8_worst_112 (by decide) ?_
              exact ih_35 (k + 1) (by omega) (by omega) _ _ _ h (lv_sub hl [0, 1, 2, 4, 5, 6, 7] rfl)
            · have w1 : absI (qAt (trL X i) (nI (100 * k)) - trV (srt (X.2.2 i).2.2.1) (100 * k)) = (wrS (trL X i) (srt (X.2.2 i).2.2.1) (k + 1)).1 := by rw [show wrS (trL X i) (srt (X.2.2 i).2.2.1) (k + 1) = if (wrS (trL X i) (srt (X.2.2 i).2.2.1) k).1 < absI (qAt (trL X i) (nI (100 * k)) - trV (srt (X.2.2 i).2.2.1) (100 * k)) then (absI (qAt (trL X i) (nI (100 * k)) - trV (srt (X.2.2 i).2.2.1) (100 * k)), nI (100 * k)) else wrS (trL X i) (srt (X.2.2 i).2.2.1) k from rfl, if_pos (Int32.not_le.mp c_81)]
              have w2 : nI (100 * k) = (wrS (trL X i) (srt (X.2.2 i).2.2.1) (k + 1)).2 := by rw [show wrS (trL X i) (srt (X.2.2 i).2.2.1) (k + 1) = if (wrS (trL X i) (srt (X.2.2 i).2.2.1) k).1 < absI (qAt (trL X i) (nI (100 * k)) - trV (srt (X.2.2 i).2.2.1) (100 * k)) then (absI (qAt (trL X i) (nI (100 * k)) - trV (srt (X.2.2 i).2.2.1) (100 * k)), nI (100 * k)) else wrS (trL X i) (srt (X.2.2 i).2.2.1) k from rfl, if_pos (Int32.not_le.mp c_81)]
              refine lv_iload hx hb dX8_worst_84 (lv_at hl 1 rfl) ?_
              refine lv_goto (tgt := 91) hx hb dX8_worst_86 (by decide) ?_
              refine cv_i (show (nI (100 * k) : Int32) = (wrS (trL X i) (srt (X.2.2 i).2.2.1) (k + 1)).2 from w2) ?_
              refine lv_istore (lv' := [(5, .int ((wrS (trL X i) (srt (X.2.2 i).2.2.1) (k + 1)).2)), (8, .int (absI (qAt (trL X i) (nI (100 * k)) - trV (srt (X.2.2 i).2.2.1) (100 * k)))), (7, .int (nI (100 * k))), (6, .int ((wrS (trL X i) (srt (X.2.2 i).2.2.1) k).1)), (4, .int (nI ((X.2.2 i).2.2.1.length))), (2, .int (nI q9)), (1, .int (nI i)), (0, .ref (ad L 0))]) hx hb dX8_worst_91 hl (by decide) rfl (fun ls hl => ?_)
              refine lv_iload hx hb dX8_worst_93 (lv_at hl 1 rfl) ?_
              refine lv_iload hx hb dX8_worst_95 (lv_at hl 3 rfl) ?_
              refine lv_icmp_le (tgt := 105) hx hb dX8_worst_97 (by decide) (fun c_97 => absurd c_97 c_81) (fun c_97 => ?_)
              refine lv_iload hx hb dX8_worst_100 (lv_at hl 1 rfl) ?_
              refine lv_goto (tgt := 107) hx hb dX8_worst_102 (by decide) ?_
              refine cv_i (show (absI (qAt (trL X i) (nI (100 * k)) - trV (srt (X.2.2 i).2.2.1) (100 * k)) : Int32) = (wrS (trL X i) (srt (X.2.2 i).2.2.1) (k + 1)).1 from w1) ?_
              refine lv_istore (lv' := [(6, .int ((wrS (trL X i) (srt (X.2.2 i).2.2.1) (k + 1)).1)), (5, .int ((wrS (trL X i) (srt (X.2.2 i).2.2.1) (k + 1)).2)), (8, .int (absI (qAt (trL X i) (nI (100 * k)) - trV (srt (X.2.2 i).2.2.1) (100 * k)))), (7, .int (nI (100 * k))), (4, .int (nI ((X.2.2 i).2.2.1.length))), (2, .int (nI q9)), (1, .int (nI i)), (0, .ref (ad L 0))]) hx hb dX8_worst_107 hl (by decide) rfl (fun ls hl => ?_)
              refine lv_iinc (v := (nI (100 * k + 100))) (lv' := [(7, .int (nI (100 * k + 100))), (6, .int ((wrS (trL X i) (srt (X.2.2 i).2.2.1) (k + 1)).1)), (5, .int ((wrS (trL X i) (srt (X.2.2 i).2.2.1) (k + 1)).2)), (8, .int (absI (qAt (trL X i) (nI (100 * k)) - trV (srt (X.2.2 i).2.2.1) (100 * k)))), (4, .int (nI ((X.2.2 i).2.2.1.length))), (2, .int (nI q9)), (1, .int (nI i)), (0, .ref (ad L 0))]) hx hb dX8_worst_109 hl (k := 3) rfl (iinc_k _ 100) (by decide) rfl (fun ls hl => ?_)
              have hl : lv_has ls 9 [(7, .int (nI (100 * (k + 1)))), (6, .int ((wrS (trL X i) (srt (X.2.2 i).2.2.1) (k + 1)).1)), (5, .int ((wrS (trL X i) (srt (X.2.2 i).2.2.1) (k + 1)).2)), (8, .int (absI (qAt (trL X i) (nI (100 * k)) - trV (srt (X.2.2 i).2.2.1) (100 * k)))), (4, .int (nI ((X.2.2 i).2.2.1.length))), (2, .int (nI q9)), (1, .int (nI i)), (0, .ref (ad L 0))] := by rw [show (.int (nI (100 * k + 100)) : Value) = .int (nI (100 * (k + 1))) from (by rw [show 100 * k + 100 = 100 * (k + 1) by omega])] at hl; exact hl
              refine lv_goto (tgt := 35) hx hb dX8_worst_112 (by decide) ?_
              exact ih_35 (k + 1) (by omega) (by omega) _ _ _ h (lv_sub hl [0, 1, 2, 4, 5, 6, 7] rfl)
          · have hab : -(qAt (trL X i) (nI (100 * k)) - trV (srt (X.2.2 i).2.2.1) (100 * k)) = absI (qAt (trL X i) (nI (100 * k)) - trV (srt (X.2.2 i).2.2.1) (100 * k)) := by rw [absI, if_neg c_64]; exact ng0 _
            refine lv_iload hx hb dX8_worst_67 (lv_at hl 0 rfl) ?_
            refine lv_ineg hx hb dX8_worst_69 ?_
            refine lv_goto (tgt := 75) hx hb dX8_worst_70 (by decide) ?_
            refine cv_i (show (-((qAt (trL X i) (nI (100 * k))) - (trV (srt ((X.2.2 i).2.2.1)) (100 * k))) : Int32) = absI (qAt (trL X i) (nI (100 * k)) - trV (srt (X.2.2 i).2.2.1) (100 * k)) from hab) ?_
            refine lv_istore (lv' := [(8, .int (absI (qAt (trL X i) (nI (100 * k)) - trV (srt (X.2.2 i).2.2.1) (100 * k)))), (7, .int (nI (100 * k))), (6, .int ((wrS (trL X i) (srt (X.2.2 i).2.2.1) k).1)), (5, .int ((wrS (trL X i) (srt (X.2.2 i).2.2.1) k).2)), (4, .int (nI ((X.2.2 i).2.2.1.length))), (2, .int (nI q9)), (1, .int (nI i)), (0, .ref (ad L 0))]) hx hb dX8_worst_75 hl (by decide) rfl (fun ls hl => ?_)
            refine lv_iload hx hb dX8_worst_77 (lv_at hl 0 rfl) ?_
            refine lv_iload hx hb dX8_worst_79 (lv_at hl 2 rfl) ?_
            refine lv_icmp_le (tgt := 89) hx hb dX8_worst_81 (by decide) (fun c_81 => ?_) (fun c_81 => ?_)
            · have w1 : (wrS (trL X i) (srt (X.2.2 i).2.2.1) k).1 = (wrS (trL X i) (srt (X.2.2 i).2.2.1) (k + 1)).1 := by rw [show wrS (trL X i) (srt (X.2.2 i).2.2.1) (k + 1) = if (wrS (trL X i) (srt (X.2.2 i).2.2.1) k).1 < absI (qAt (trL X i) (nI (100 * k)) - trV (srt (X.2.2 i).2.2.1) (100 * k)) then (absI (qAt (trL X i) (nI (100 * k)) - trV (srt (X.2.2 i).2.2.1) (100 * k)), nI (100 * k)) else wrS (trL X i) (srt (X.2.2 i).2.2.1) k from rfl, if_neg (Int32.not_lt.mpr c_81)]
              have w2 : (wrS (trL X i) (srt (X.2.2 i).2.2.1) k).2 = (wrS (trL X i) (srt (X.2.2 i).2.2.1) (k + 1)).2 := by rw [show wrS (trL X i) (srt (X.2.2 i).2.2.1) (k + 1) = if (wrS (trL X i) (srt (X.2.2 i).2.2.1) k).1 < absI (qAt (trL X i) (nI (100 * k)) - trV (srt (X.2.2 i).2.2.1) (100 * k)) then (absI (qAt (trL X i) (nI (100 * k)) - trV (srt (X.2.2 i).2.2.1) (100 * k)), nI (100 * k)) else wrS (trL X i) (srt (X.2.2 i).2.2.1) k from rfl, if_neg (Int32.not_lt.mpr c_81)]
              refine lv_iload hx hb dX8_worst_89 (lv_at hl 3 rfl) ?_
              refine cv_i (show ((wrS (trL X i) (srt (X.2.2 i).2.2.1) k).2 : Int32) = (wrS (trL X i) (srt (X.2.2 i).2.2.1) (k + 1)).2 from w2) ?_
              refine lv_istore (lv' := [(5, .int ((wrS (trL X i) (srt (X.2.2 i).2.2.1) (k + 1)).2)), (8, .int (absI (qAt (trL X i) (nI (100 * k)) - trV (srt (X.2.2 i).2.2.1) (100 * k)))), (7, .int (nI (100 * k))), (6, .int ((wrS (trL X i) (srt (X.2.2 i).2.2.1) k).1)), (4, .int (nI ((X.2.2 i).2.2.1.length))), (2, .int (nI q9)), (1, .int (nI i)), (0, .ref (ad L 0))]) hx hb dX8_worst_91 hl (by decide) rfl (fun ls hl => ?_)
              refine lv_iload hx hb dX8_worst_93 (lv_at hl 1 rfl) ?_
              refine lv_iload hx hb dX8_worst_95 (lv_at hl 3 rfl) ?_
              refine lv_icmp_le (tgt := 105) hx hb dX8_worst_97 (by decide) (fun c_97 => ?_) (fun c_97 => absurd c_97 (fun z => z c_81))
              refine lv_iload hx hb dX8_worst_105 (lv_at hl 3 rfl) ?_
              refine cv_i (show ((wrS (trL X i) (srt (X.2.2 i).2.2.1) k).1 : Int32) = (wrS (trL X i) (srt (X.2.2 i).2.2.1) (k + 1)).1 from w1) ?_
              refine lv_istore (lv' := [(6, .int ((wrS (trL X i) (srt (X.2.2 i).2.2.1) (k + 1)).1)), (5, .int ((wrS (trL X i) (srt (X.2.2 i).2.2.1) (k + 1)).2)), (8, .int (absI (qAt (trL X i) (nI (100 * k)) - trV (srt (X.2.2 i).2.2.1) (100 * k)))), (7, .int (nI (100 * k))), (4, .int (nI ((X.2.2 i).2.2.1.length))), (2, .int (nI q9)), (1, .int (nI i)), (0, .ref (ad L 0))]) hx hb dX8_worst_107 hl (by decide) rfl (fun ls hl => ?_)
              refine lv_iinc (v := (nI (100 * k + 100))) (lv' := [(7, .int (nI (100 * k + 100))), (6, .int ((wrS (trL X i) (srt (X.2.2 i).2.2.1) (k + 1)).1)), (5, .int ((wrS (trL X i) (srt (X.2.2 i).2.2.1) (k + 1)).2)), (8, .int (absI (qAt (trL X i) (nI (100 * k)) - trV (srt (X.2.2 i).2.2.1) (100 * k)))), (4, .int (nI ((X.2.2 i).2.2.1.length))), (2, .int (nI q9)), (1, .int (nI i)), (0, .ref (ad L 0))]) hx hb dX8_worst_109 hl (k := 3) rfl (iinc_k _ 100) (by decide) rfl (fun ls hl => ?_)
              have hl : lv_has ls 9 [(7, .int (nI (100 * (k + 1)))), (6, .int ((wrS (trL X i) (srt (X.2.2 i).2.2.1) (k + 1)).1)), (5, .int ((wrS (trL X i) (srt (X.2.2 i).2.2.1) (k + 1)).2)), (8, .int (absI (qAt (trL X i) (nI (100 * k)) - trV (srt (X.2.2 i).2.2.1) (100 * k)))), (4, .int (nI ((X.2.2 i).2.2.1.length))), (2, .int (nI q9)), (1, .int (nI i)), (0, .ref (ad L 0))] := by rw [show (.int (nI (100 * k + 100)) : Value) = .int (nI (100 * (k + 1))) from (by rw [show 100 * k + 100 = 100 * (k + 1) by omega])] at hl; exact hl
              refine lv_goto (tgt := 35) hx hb dX8_worst_112 (by decide) ?_
              exact ih_35 (k + 1) (by omega) (by omega) _ _ _ h (lv_sub hl [0, 1, 2, 4, 5, 6, 7] rfl)
            · have w1 : absI (qAt (trL X i) (nI (100 * k)) - trV (srt (X.2.2 i).2.2.1) (100 * k)) = (wrS (trL X i) (srt (X.2.2 i).2.2.1) (k + 1)).1 := by rw [show wrS (trL X i) (srt (X.2.2 i).2.2.1) (k + 1) = if (wrS (trL X i) (srt (X.2.2 i).2.2.1) k).1 < absI (qAt (trL X i) (nI (100 * k)) - trV (srt (X.2.2 i).2.2.1) (100 * k)) then (absI (qAt (trL X i) (nI (100 * k)) - trV (srt (X.2.2 i).2.2.1) (100 * k)), nI (100 * k)) else wrS (trL X i) (srt (X.2.2 i).2.2.1) k from rfl, if_pos (Int32.not_le.mp c_81)]
              have w2 : nI (100 * k) = (wrS (trL X i) (srt (X.2.2 i).2.2.1) (k + 1)).2 := by rw [show wrS (trL X i) (srt (X.2.2 i).2.2.1) (k + 1) = if (wrS (trL X i) (srt (X.2.2 i).2.2.1) k).1 < absI (qAt (trL X i) (nI (100 * k)) - trV (srt (X.2.2 i).2.2.1) (100 * k)) then (absI (qAt (trL X i) (nI (100 * k)) - trV (srt (X.2.2 i).2.2.1) (100 * k)), nI (100 * k)) else wrS (trL X i) (srt (X.2.2 i).2.2.1) k from rfl, if_pos (Int32.not_le.mp c_81)]
              refine lv_iload hx hb dX8_worst_84 (lv_at hl 1 rfl) ?_
              refine lv_goto (tgt := 91) hx hb dX8_worst_86 (by decide) ?_
              refine cv_i (show (nI (100 * k) : Int32) = (wrS (trL X i) (srt (X.2.2 i).2.2.1) (k + 1)).2 from w2) ?_
              refine lv_istore (lv' := [(5, .int ((wrS (trL X i) (srt (X.2.2 i).2.2.1) (k + 1)).2)), (8, .int (absI (qAt (trL X i) (nI (100 * k)) - trV (srt (X.2.2 i).2.2.1) (100 * k)))), (7, .int (nI (100 * k))), (6, .int ((wrS (trL X i) (srt (X.2.2 i).2.2.1) k).1)), (4, .int (nI ((X.2.2 i).2.2.1.length))), (2, .int (nI q9)), (1, .int (nI i)), (0, .ref (ad L 0))]) hx hb dX8_worst_91 hl (by decide) rfl (fun ls hl => ?_)
              refine lv_iload hx hb dX8_worst_93 (lv_at hl 1 rfl) ?_
              refine lv_iload hx hb dX8_worst_95 (lv_at hl 3 rfl) ?_
              refine lv_icmp_le (tgt := 105) hx hb dX8_worst_97 (by decide) (fun c_97 => absurd c_97 c_81) (fun c_97 => ?_)
              refine lv_iload hx hb dX8_worst_100 (lv_at hl 1 rfl) ?_
              refine lv_goto (tgt := 107) hx hb dX8_worst_102 (by decide) ?_
              refine cv_i (show (absI (qAt (trL X i) (nI (100 * k)) - trV (srt (X.2.2 i).2.2.1) (100 * k)) : Int32) = (wrS (trL X i) (srt (X.2.2 i).2.2.1) (k + 1)).1 from w1) ?_
              refine lv_istore (lv' := [(6, .int ((wrS (trL X i) (srt (X.2.2 i).2.2.1) (k + 1)).1)), (5, .int ((wrS (trL X i) (srt (X.2.2 i).2.2.1) (k + 1)).2)), (8, .int (absI (qAt (trL X i) (nI (100 * k)) - trV (srt (X.2.2 i).2.2.1) (100 * k)))), (7, .int (nI (100 * k))), (4, .int (nI ((X.2.2 i).2.2.1.length))), (2, .int (nI q9)), (1, .int (nI i)), (0, .ref (ad L 0))]) hx hb dX8_worst_107 hl (by decide) rfl (fun ls hl => ?_)
              refine lv_iinc (v := (nI (100 * k + 100))) (lv' := [(7, .int (nI (100 * k + 100))), (6, .int ((wrS (trL X i) (srt (X.2.2 i).2.2.1) (k + 1)).1)), (5, .int ((wrS (trL X i) (srt (X.2.2 i).2.2.1) (k + 1)).2)), (8, .int (absI (qAt (trL X i) (nI (100 * k)) - trV (srt (X.2.2 i).2.2.1) (100 * k)))), (4, .int (nI ((X.2.2 i).2.2.1.length))), (2, .int (nI q9)), (1, .int (nI i)), (0, .ref (ad L 0))]) hx hb dX8_worst_109 hl (k := 3) rfl (iinc_k _ 100) (by decide) rfl (fun ls hl => ?_)
              have hl : lv_has ls 9 [(7, .int (nI (100 * (k + 1)))), (6, .int ((wrS (trL X i) (srt (X.2.2 i).2.2.1) (k + 1)).1)), (5, .int ((wrS (trL X i) (srt (X.2.2 i).2.2.1) (k + 1)).2)), (8, .int (absI (qAt (trL X i) (nI (100 * k)) - trV (srt (X.2.2 i).2.2.1) (100 * k)))), (4, .int (nI ((X.2.2 i).2.2.1.length))), (2, .int (nI q9)), (1, .int (nI i)), (0, .ref (ad L 0))] := by rw [show (.int (nI (100 * k + 100)) : Value) = .int (nI (100 * (k + 1))) from (by rw [show 100 * k + 100 = 100 * (k + 1) by omega])] at hl; exact hl
              refine lv_goto (tgt := 35) hx hb dX8_worst_112 (by decide) ?_
              exact ih_35 (k + 1) (by omega) (by omega) _ _ _ h (lv_sub hl [0, 1, 2, 4, 5, 6, 7] rfl)
    exact LP_35 _ 0 (by omega) (Nat.lt_succ_self _) _ _ _ h (lv_sub hl [0, 1, 2, 3, 7, 6, 5] rfl)
  · rw [if_pos (Int32.not_le.mp c_9)] at hp
    refine lv_iload_n hx hb dX8_worst_12 rfl (lv_at hl 0 rfl) ?_
    exact e_i8 S hK h hr hlk dX8_worst_13 (hp _ _ ⟨rfl, hc⟩)

abbrev rX8_rank : Room := { frames := 5, cells := 0, slots := 0, locals := 109 }
theorem yd_X8_rank : ydV yX8_rank RX8 2 := ⟨rfl, by decide +kernel, by decide +kernel, by decide +kernel⟩
set_option maxHeartbeats 4000000 in
set_option maxRecDepth 100000 in
theorem c_X8_rank (l : Launch) (L : Lay) (σ : Me) {X : SS} {hh : List SS} {t : List Int32} (hc : MC σ X hh t) (hX : GX X) (hH : ∀ Y ∈ hh, GX Y) (hRD : ∀ i, i < 3 → RD (X.2.2 i)) (x q : Int32) : Mg8 l L yX8_rank (Cond.code yX8_rank cX8_rank 5 (some FieldType.int) :: qA) rX8_rank [.ref (ad L 0), .int x, .int q] σ (fun r u => r = some (.int (mRan X x q)) ∧ MC u X hh t) := by
  refine Mr8_ofW (by decide) (Nat.le_of_ble_eq_true rfl) ?_
  intro p e s m args below meth c ls post hp hI S hr hlk hK h hl
  have hx := S.1
  have hb := S.2.1
  have hl : lv_has ls 5 [(0, .ref (ad L 0)), (1, .int x), (2, .int q)] := hl
  unfold mRan at hp
  refine lv_aload_n hx hb dX8_rank_0 rfl (lv_at hl 0 rfl) ?_
  refine lv_iload_n hx hb dX8_rank_1 rfl (lv_at hl 1 rfl) ?_
  refine lv_iload_n hx hb dX8_rank_2 rfl (lv_at hl 2 rfl) ?_
  refine lv_sipush (v := (nI 9999)) hx hb dX8_rank_3 (by decide) ?_
  refine q_V18 S hI hK h [.int x, .int q, .int (nI 9999)] (c_X8_whyNoQuantile l L σ hc.1 hX.I x q 9999) q_775 q_777 qs_32 q_10 q_778 yd_X8_whyNoQuantile rfl ⟨⟨rfl, rfl⟩, ⟨(Nat.le_of_ble_eq_true rfl), (Nat.le_of_ble_eq_true rfl)⟩, Nat.le_refl _, Nat.le_refl _⟩ rfl (Nat.le_of_ble_eq_true rfl) hl.1 dX8_rank_6 (fun H locs h => ?_)
  refine lv_istore_n (lv' := [(3, .int (whyQ X x q 9999)), (0, .ref (ad L 0)), (1, .int x), (2, .int q)]) hx hb dX8_rank_9 rfl hl (by decide) rfl (fun ls hl => ?_)
  refine lv_iload_n hx hb dX8_rank_10 rfl (lv_at hl 0 rfl) ?_
  refine lv_if_ge (tgt := 16) hx hb dX8_rank_11 (by decide) (fun c_11 => ?_) (fun c_11 => ?_)
  · rw [if_neg (Int32.not_lt.mpr c_11)] at hp
    obtain ⟨i, hi, rfl, c9, hV9⟩ := whyQ_0 (Int32.not_lt.mpr c_11)
    obtain ⟨q9, -, hq9, rfl⟩ := rng_nat (a := 0) (b := 9999) (by omega) (by omega) c9
    rw [nI_clamp (show i < 2 ^ 31 by omega), nI_clamp (show q9 < 2 ^ 31 by omega)] at hp
    have hGi := hX.1 i hi
    obtain ⟨la, lb, lc, ld⟩ := hGi.1
    refine lv_aload_n hx hb dX8_rank_16 rfl (lv_at hl 1 rfl) ?_
    refine lv_iload_n hx hb dX8_rank_17 rfl (lv_at hl 2 rfl) ?_
    refine q_VR8 S hI hK h [.int (nI i)] (c_X8_findAll l L σ hc hX hi) q_780 q_782 qs_33 q_10 q_783 yd_X8_findAll rfl ⟨⟨rfl, rfl⟩, ⟨(Nat.le_of_ble_eq_true rfl), (Nat.le_of_ble_eq_true rfl)⟩, Nat.le_refl _, Nat.le_refl _⟩ rfl (Nat.le_of_ble_eq_true rfl) hl.1 dX8_rank_18 (fun σ1 H locs hp9 h => ?_)
    obtain ⟨hL1, hOV, hc1⟩ := hp9
    have m3 := (hc1.1.2.2 i hi).2.2.1
    obtain ⟨L0, G0, hQ, hV0, hVl⟩ := QF_of hGi (hRD i hi) hV9
    have g4 := trL_len hX.I hi
    refine lv_sipush (v := (nI 1000)) hx hb dX8_rank_21 (by decide) ?_
    refine lv_istore (lv' := [(4, .int (nI 1000)), (3, .int (whyQ X (nI i) (nI q9) 9999)), (0, .ref (ad L 0)), (1, .int (nI i)), (2, .int (nI q9))]) hx hb dX8_rank_24 hl (by decide) rfl (fun ls hl => ?_)
    have LP_26 : ∀ (n_26 : Nat) (n : Nat), (n ≤ 1001) → (rkM (trL X i) (nI q9) 1001 = rkM (trL X i) (nI q9) n) → n < n_26 → ∀ (H : Heap) (locs : List Loc) (ls : Array Slot), Hd8 L s.heap H σ1 locs → lv_has ls 5 [(4, .int (rkc n)), (2, .int (nI q9)), (1, .int (nI i)), (0, .ref (ad L 0))] → W p l e rX8_rank s m args below meth c H locs 0 0 (MQ below (Qg post (bs8 L) (Aw8 L)) args s 0 0 (Aw8 L)) (F0 m 26 ls []) := by
      intro n_26
      induction n_26 with
      | zero => intro n; intros; omega
      | succ n_26 ih_26 =>
        intro n hn hr9 hm_26 H locs ls h hl
        refine lv_iload hx hb dX8_rank_26 (lv_at hl 0 rfl) ?_
        refine lv_if_lt (tgt := 52) hx hb dX8_rank_28 (by decide) (fun c_28 => ?_) (fun c_28 => ?_)
        · have hn0 : n = 0 := by cases n with | zero => rfl | succ n1 => exact absurd c_28 (nI_pos (show n1 < 2 ^ 31 by omega))
          have hv : rkc n = rkM (trL X i) (nI q9) 1001 := by rw [hr9, hn0]; rfl
          refine lv_iload hx hb dX8_rank_52 (lv_at hl 0 rfl) ?_
          refine cv_i (show (rkc n : Int32) = rkM (trL X i) (nI q9) 1001 from hv) ?_
          exact e_i8 S hK h hr hlk dX8_rank_54 (hp _ _ ⟨rfl, hc1⟩)
        · obtain ⟨n1, rfl⟩ : ∃ n1, n = n1 + 1 := by cases n with | zero => exact absurd (show rkc 0 < 0 by decide) c_28 | succ n1 => exact ⟨n1, rfl⟩
          have hl : lv_has ls 5 [(4, .int (nI n1)), (2, .int (nI q9)), (1, .int (nI i)), (0, .ref (ad L 0))] := by rw [show (.int (rkc (n1 + 1)) : Value) = .int (nI n1) from rfl] at hl; exact hl
          refine lv_aload_n hx hb dX8_rank_31 rfl (lv_at hl 3 rfl) ?_
          refine lv_aload_n hx hb dX8_rank_32 rfl (lv_at hl 3 rfl) ?_
          refine lv_iload_n hx hb dX8_rank_33 rfl (lv_at hl 2 rfl) ?_
          refine q_V18 S hI hK h [.int (nI i)] (c_X8_weightOf l L σ1 (d := i) (by omega)) q_653 q_655 qs_12 q_10 q_656 yd_X8_weightOf rfl ⟨⟨rfl, rfl⟩, ⟨(Nat.le_of_ble_eq_true rfl), (Nat.le_of_ble_eq_true rfl)⟩, Nat.le_refl _, Nat.le_refl _⟩ rfl (Nat.le_of_ble_eq_true rfl) hl.1 dX8_rank_34 (fun H locs h => ?_)
          refine cv_i (show (σ1 1 (2 + 1024 * i + 2) : Int32) = nI ((X.2.2 i).2.2.1.length) from m3) ?_
          refine lv_iload hx hb dX8_rank_37 (lv_at hl 0 rfl) ?_
          refine q_V18 S hI hK h [.int (nI ((X.2.2 i).2.2.1.length)), .int (nI n1)] (c_X8_quantileBy l L σ1 hL1 hOV hQ srt_len hV0 hVl (by omega) (q9 := n1) (by omega)) q_784 q_786 qs_34 q_10 q_787 yd_X8_quantileBy rfl ⟨⟨rfl, rfl⟩, ⟨(Nat.le_of_ble_eq_true rfl), (Nat.le_of_ble_eq_true rfl)⟩, Nat.le_refl _, Nat.le_refl _⟩ rfl (Nat.le_of_ble_eq_true rfl) hl.1 dX8_rank_39 (fun H locs h => ?_)
          refine cv_i (show (nI (qV (trL X i) (X.2.2 i).2.2.1.length L0 G0 n1) : Int32) = qAt (trL X i) (nI n1) from (qAt_n hQ (by omega)).symm) ?_
          refine lv_iload_n hx hb dX8_rank_42 rfl (lv_at hl 1 rfl) ?_
          refine lv_icmp_le (tgt := 52) hx hb dX8_rank_43 (by decide) (fun c_43 => ?_) (fun c_43 => ?_)
          · have hv : nI n1 = rkM (trL X i) (nI q9) 1001 := by rw [hr9, rkM, if_pos c_43]
            refine lv_iload hx hb dX8_rank_52 (lv_at hl 0 rfl) ?_
            refine cv_i (show (nI n1 : Int32) = rkM (trL X i) (nI q9) 1001 from hv) ?_
            exact e_i8 S hK h hr hlk dX8_rank_54 (hp _ _ ⟨rfl, hc1⟩)
          · have hl : lv_has ls 5 [(4, .int (nI n1)), (2, .int (nI q9)), (1, .int (nI i)), (0, .ref (ad L 0))] := by rw [show (.int (nI n1) : Value) = .int (nI n1) from rfl] at hl; exact hl
            refine lv_iinc (v := (nI n1 + -1)) (lv' := [(4, .int (nI n1 + -1)), (2, .int (nI q9)), (1, .int (nI i)), (0, .ref (ad L 0))]) hx hb dX8_rank_46 hl (k := 0) rfl rfl (by decide) rfl (fun ls hl => ?_)
            have hl : lv_has ls 5 [(4, .int (rkc n1)), (2, .int (nI q9)), (1, .int (nI i)), (0, .ref (ad L 0))] := by rw [show (.int (nI n1 + -1) : Value) = .int (rkc n1) from (congrArg Value.int (rkc_dec n1))] at hl; exact hl
            refine lv_goto (tgt := 26) hx hb dX8_rank_49 (by decide) ?_
            exact ih_26 n1 (by omega) (by rw [hr9, rkM, if_neg c_43]) (by omega) _ _ _ h (lv_sub hl [0, 1, 2, 3] rfl)
    exact LP_26 _ 1001 (Nat.le_refl _) rfl (Nat.lt_succ_self _) _ _ _ h (lv_sub hl [0, 4, 3, 2] rfl)
  · rw [if_pos (Int32.not_le.mp c_11)] at hp
    refine lv_iload_n hx hb dX8_rank_14 rfl (lv_at hl 0 rfl) ?_
    exact e_i8 S hK h hr hlk dX8_rank_15 (hp _ _ ⟨rfl, hc⟩)

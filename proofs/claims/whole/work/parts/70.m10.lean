abbrev rX8_join : Room := { frames := 5, cells := 0, slots := 0, locals := 109 }
theorem yd_X8_join : ydV yX8_join RX8 2 := ⟨rfl, by decide +kernel, by decide +kernel, by decide +kernel⟩
set_option maxHeartbeats 4000000 in
set_option maxRecDepth 100000 in
theorem c_X8_join (l : Launch) (L : Lay) (σ : Me) {X : SS} {hh : List SS} {t : List Int32} (hc : MC σ X hh t) (hX : GX X) (hH : ∀ Y ∈ hh, GX Y) (x y : Int32) : Mg8 l L yX8_join (Cond.code yX8_join cX8_join 4 (some FieldType.int) :: qA) rX8_join [.ref (ad L 0), .int x, .int y] σ (fun r u => r = some (.int (mJoin X hh x y).1) ∧ MC u (mJoin X hh x y).2.1 (mJoin X hh x y).2.2 t) := by
  refine Mr8_ofW (by decide) (Nat.le_of_ble_eq_true rfl) ?_
  intro p e s m args below meth c ls post hp hI S hr hlk hK h hl
  have hx := S.1
  have hb := S.2.1
  have hl : lv_has ls 4 [(0, .ref (ad L 0)), (1, .int x), (2, .int y)] := hl
  unfold mJoin at hp
  refine lv_iload_n hx hb dX8_join_0 rfl (lv_at hl 1 rfl) ?_
  refine q_S18 S hI hK h [.int x] (c_X8_isDigest l L σ x) q_646 q_647 q_10 q_648 yd_X8_isDigest rfl ⟨⟨rfl, rfl⟩, ⟨(Nat.le_of_ble_eq_true rfl), (Nat.le_of_ble_eq_true rfl)⟩, Nat.le_refl _, Nat.le_refl _⟩ rfl (Nat.le_of_ble_eq_true rfl) hl.1 dX8_join_1 (fun H locs h => ?_)
  refine z_eq (tgt := 19) hx hb dX8_join_4 (by decide) (fun c_4 => ?_) (fun c_4 => ?_)
  · rw [if_pos c_4] at hp
    refine lv_ldc (v := (-1000001 : Int32)) hx hb S.2.2.2.1 (S.2.2.2.2 _ q_652) dX8_join_19 ?_
    exact e_i8 S hK h hr hlk dX8_join_21 (hp _ _ ⟨rfl, hc⟩)
  · rw [if_neg (fun q => q c_4)] at hp
    obtain ⟨i, -, hi2, rfl⟩ := rng_nat (a := 0) (b := 2) (by omega) (by omega) c_4
    rw [nI_clamp (show i < 2 ^ 31 by omega)] at hp
    have hi : i < 3 := by omega
    have hGi := hX.1 i hi
    obtain ⟨m1, m2, m3, m4, m5, m6, m7⟩ := hc.1.2.2 i hi
    obtain ⟨la, lb, lc, ld⟩ := hGi.1
    refine lv_iload_n hx hb dX8_join_7 rfl (lv_at hl 2 rfl) ?_
    refine q_S18 S hI hK h [.int y] (c_X8_isDigest l L σ y) q_646 q_647 q_10 q_648 yd_X8_isDigest rfl ⟨⟨rfl, rfl⟩, ⟨(Nat.le_of_ble_eq_true rfl), (Nat.le_of_ble_eq_true rfl)⟩, Nat.le_refl _, Nat.le_refl _⟩ rfl (Nat.le_of_ble_eq_true rfl) hl.1 dX8_join_8 (fun H locs h => ?_)
    refine z_eq (tgt := 19) hx hb dX8_join_11 (by decide) (fun c_11 => ?_) (fun c_11 => ?_)
    · rw [if_pos c_11] at hp
      refine lv_ldc (v := (-1000001 : Int32)) hx hb S.2.2.2.1 (S.2.2.2.2 _ q_652) dX8_join_19 ?_
      exact e_i8 S hK h hr hlk dX8_join_21 (hp _ _ ⟨rfl, hc⟩)
    · rw [if_neg (fun q => q c_11)] at hp
      obtain ⟨j, -, hj2, rfl⟩ := rng_nat (a := 0) (b := 2) (by omega) (by omega) c_11
      rw [nI_clamp (show j < 2 ^ 31 by omega)] at hp
      have hj : j < 3 := by omega
      have hGj := hX.1 j hj
      obtain ⟨k1, k2, k3, k4, k5, k6, k7⟩ := hc.1.2.2 j hj
      obtain ⟨la2, lb2, lc2, ld2⟩ := hGj.1
      unfold mJoin1 at hp
      refine lv_iload_n hx hb dX8_join_14 rfl (lv_at hl 1 rfl) ?_
      refine lv_iload_n hx hb dX8_join_15 rfl (lv_at hl 2 rfl) ?_
      refine b_icmp_ne (tgt := 22) hx hb dX8_join_16 (by decide) (by omega) (by omega) (fun c_16 => ?_) (fun c_16 => ?_)
      · rw [if_neg c_16] at hp
        refine lv_aload_n hx hb dX8_join_22 rfl (lv_at hl 0 rfl) ?_
        refine lv_iload_n hx hb dX8_join_23 rfl (lv_at hl 1 rfl) ?_
        refine q_V18 S hI hK h [.int (nI i)] (c_X8_weightOf l L σ (d := i) (by omega)) q_653 q_655 qs_12 q_10 q_656 yd_X8_weightOf rfl ⟨⟨rfl, rfl⟩, ⟨(Nat.le_of_ble_eq_true rfl), (Nat.le_of_ble_eq_true rfl)⟩, Nat.le_refl _, Nat.le_refl _⟩ rfl (Nat.le_of_ble_eq_true rfl) hl.1 dX8_join_24 (fun H locs h => ?_)
        refine cv_i (show (σ 1 (2 + 1024 * i + 2) : Int32) = nI ((X.2.2 i).2.2.1.length) from m3) ?_
        refine lv_aload_n hx hb dX8_join_27 rfl (lv_at hl 0 rfl) ?_
        refine lv_iload_n hx hb dX8_join_28 rfl (lv_at hl 2 rfl) ?_
        refine q_V18 S hI hK h [.int (nI j)] (c_X8_weightOf l L σ (d := j) (by omega)) q_653 q_655 qs_12 q_10 q_656 yd_X8_weightOf rfl ⟨⟨rfl, rfl⟩, ⟨(Nat.le_of_ble_eq_true rfl), (Nat.le_of_ble_eq_true rfl)⟩, Nat.le_refl _, Nat.le_refl _⟩ rfl (Nat.le_of_ble_eq_true rfl) hl.1 dX8_join_29 (fun H locs h => ?_)
        refine cv_i (show (σ 1 (2 + 1024 * j + 2) : Int32) = nI ((X.2.2 j).2.2.1.length) from k3) ?_
        refine a_iadd hx hb dX8_join_32 ?_
        refine lv_sipush (v := (nI 200)) hx hb dX8_join_33 (by decide) ?_
        refine b_icmp_le (tgt := 42) hx hb dX8_join_36 (by decide) (by omega) (by omega) (fun c_36 => ?_) (fun c_36 => ?_)
        · rw [if_neg (Nat.not_lt.mpr c_36)] at hp
          have hV9 : (X.2.2 j).2.2.1.length + (X.2.2 i).2.2.1.length ≤ 200 := by omega
          have hX1 := GX_setD (i := i) hX (GD_pk (f := X.1) hGi)
          have ej : (setD X i (pkD X.1 (X.2.2 i))).2.2 j = X.2.2 j := setD_n (fun z => c_16 z.symm)
          have hX2 := GX_setD (i := j) hX1 (GD_pk (f := X.1) hGj)
          obtain ⟨q1, q2, q3⟩ := to_GH (f := X.1) hGj hGi hV9
          have ei2 : (setD (setD X i (pkD X.1 (X.2.2 i))) j (pkD X.1 (X.2.2 j))).2.2 i = pkD X.1 (X.2.2 i) := setD_ij c_16
          refine lv_aload_n hx hb dX8_join_42 rfl (lv_at hl 0 rfl) ?_
          refine q_VR8 S hI hK h [] (c_X8_record l L σ hc hX.L (fun Y hY => (hH Y hY).L)) q_662 q_664 qs_14 q_10 q_665 yd_X8_record rfl ⟨⟨rfl, rfl⟩, ⟨(Nat.le_of_ble_eq_true rfl), (Nat.le_of_ble_eq_true rfl)⟩, Nat.le_refl _, Nat.le_refl _⟩ rfl (Nat.le_of_ble_eq_true rfl) hl.1 dX8_join_43 (fun σ1 H locs hp9 h => ?_)
          obtain ⟨hc1, ho1⟩ := hp9
          refine lv_aload_n hx hb dX8_join_46 rfl (lv_at hl 0 rfl) ?_
          refine lv_iload_n hx hb dX8_join_47 rfl (lv_at hl 1 rfl) ?_
          refine q_VR8 S hI hK h [.int (nI i)] (c_X8_packs l L σ1 hc1.1 hX.I hi (GD_all hGi).1) q_673 q_675 qs_16 q_10 q_676 yd_X8_packs rfl ⟨⟨rfl, rfl⟩, ⟨(Nat.le_of_ble_eq_true rfl), (Nat.le_of_ble_eq_true rfl)⟩, Nat.le_refl _, Nat.le_refl _⟩ rfl (Nat.le_of_ble_eq_true rfl) hl.1 dX8_join_48 (fun σ2 H locs hp9 h => ?_)
          obtain ⟨hS2, -, hO2⟩ := hp9
          refine lv_aload_n hx hb dX8_join_51 rfl (lv_at hl 0 rfl) ?_
          refine lv_iload_n hx hb dX8_join_52 rfl (lv_at hl 2 rfl) ?_
          refine q_VR8 S hI hK h [.int (nI j)] (c_X8_packs l L σ2 hS2 hX1.I hj (by rw [ej]; exact (GD_all hGj).1)) q_673 q_675 qs_16 q_10 q_676 yd_X8_packs rfl ⟨⟨rfl, rfl⟩, ⟨(Nat.le_of_ble_eq_true rfl), (Nat.le_of_ble_eq_true rfl)⟩, Nat.le_refl _, Nat.le_refl _⟩ rfl (Nat.le_of_ble_eq_true rfl) hl.1 dX8_join_53 (fun σ3 H locs hp9 h => ?_)
          obtain ⟨hS3, -, hO3⟩ := hp9
          rw [ej] at hS3
          have hS3 : MS (σ3 1) (setD (setD X i (pkD X.1 (X.2.2 i))) j (pkD X.1 (X.2.2 j))) := hS3
          have l9 : (pkD X.1 (X.2.2 j)).1.length + (pkD X.1 (X.2.2 i)).1.length ≤ 200 := by rw [← List.length_append]; exact q3
          refine lv_aload_n hx hb dX8_join_56 rfl (lv_at hl 0 rfl) ?_
          refine lv_iconst (v := (nI 0)) hx hb dX8_join_57 (by decide) ?_
          refine p8 2 9 S hI hK h (by decide) rfl (fun _ => rfl) q_605 dX8_join_58 (fun H locs h => ?_)
          refine lv_aload_n hx hb dX8_join_61 rfl (lv_at hl 0 rfl) ?_
          refine lv_iload_n hx hb dX8_join_62 rfl (lv_at hl 2 rfl) ?_
          refine q_VR8 S hI hK h [.int (nI j)] (c_X8_takeHeaps l L (mu σ3 0 2 (nI 0)) hj (by rw [mu_r (by omega)]; exact MS_D hS3 hj) HL.nil (by omega) (by simp only [List.length_nil]; omega)) q_681 q_683 qs_18 q_10 q_684 yd_X8_takeHeaps rfl ⟨⟨rfl, rfl⟩, ⟨(Nat.le_of_ble_eq_true rfl), (Nat.le_of_ble_eq_true rfl)⟩, Nat.le_refl _, Nat.le_refl _⟩ rfl (Nat.le_of_ble_eq_true rfl) hl.1 dX8_join_63 (fun σ4 H locs hp9 h => ?_)
          obtain ⟨hL4, hO4⟩ := hp9
          rw [List.nil_append] at hL4
          have r4 : σ4 1 = σ3 1 := (Ot.many.tr hO4).r1
          refine lv_aload_n hx hb dX8_join_66 rfl (lv_at hl 0 rfl) ?_
          refine lv_iload_n hx hb dX8_join_67 rfl (lv_at hl 1 rfl) ?_
          refine q_VR8 S hI hK h [.int (nI i)] (c_X8_takeHeaps l L σ4 hi (by rw [r4]; have q9 := hS3.2.2 i hi; rw [ei2] at q9; exact q9) hL4 (by omega) (by omega)) q_681 q_683 qs_18 q_10 q_684 yd_X8_takeHeaps rfl ⟨⟨rfl, rfl⟩, ⟨(Nat.le_of_ble_eq_true rfl), (Nat.le_of_ble_eq_true rfl)⟩, Nat.le_refl _, Nat.le_refl _⟩ rfl (Nat.le_of_ble_eq_true rfl) hl.1 dX8_join_68 (fun σ5 H locs hp9 h => ?_)
          obtain ⟨hL5, hO5⟩ := hp9
          refine lv_aload_n hx hb dX8_join_71 rfl (lv_at hl 0 rfl) ?_
          refine q_VR8 S hI hK h [] (c_X8_putInOrder l L σ5 hL5 q1 (by omega)) q_697 q_699 qs_22 q_10 q_700 yd_X8_putInOrder rfl ⟨⟨rfl, rfl⟩, ⟨(Nat.le_of_ble_eq_true rfl), (Nat.le_of_ble_eq_true rfl)⟩, Nat.le_refl _, Nat.le_refl _⟩ rfl (Nat.le_of_ble_eq_true rfl) hl.1 dX8_join_72 (fun σ6 H locs hp9 h => ?_)
          obtain ⟨hL6, hO6⟩ := hp9
          have hO7 := ((Ot.many (v := nI 0) (σ := σ3)).tr hO4).tr (hO5.tr hO6)
          refine lv_aload_n hx hb dX8_join_75 rfl (lv_at hl 0 rfl) ?_
          refine lv_aload_n hx hb dX8_join_76 rfl (lv_at hl 0 rfl) ?_
          refine g8 (v := (.ref (ad L 1))) S hK h 0 (by decide) rfl rfl q_596 dX8_join_77 ?_
          refine lv_iconst (v := (nI 0)) hx hb dX8_join_80 (by decide) ?_
          refine g8_el (n := 3074) S hK h (by decide) rfl (by omega) dX8_join_81 ?_
          refine cv_i (show (σ6 1 0 : Int32) = X.1 from (by rw [hO7.r1]; exact hS3.1)) ?_
          refine q_VR8 S hI hK h [.int X.1] (c_X8_putTogether l L σ6 hL6 (by rw [order, oSort_len]; omega) X.1) q_705 q_707 qs_24 q_10 q_708 yd_X8_putTogether rfl ⟨⟨rfl, rfl⟩, ⟨(Nat.le_of_ble_eq_true rfl), (Nat.le_of_ble_eq_true rfl)⟩, Nat.le_refl _, Nat.le_refl _⟩ rfl (Nat.le_of_ble_eq_true rfl) hl.1 dX8_join_82 (fun σ7 H locs hp9 h => ?_)
          obtain ⟨hL7, hO8⟩ := hp9
          have hO9 := hO7.tr hO8
          have l10 := packL_len (f := X.1) (A := (pkD X.1 (X.2.2 j)).1 ++ (pkD X.1 (X.2.2 i)).1)
          refine lv_aload_n hx hb dX8_join_85 rfl (lv_at hl 0 rfl) ?_
          refine lv_iload_n hx hb dX8_join_86 rfl (lv_at hl 2 rfl) ?_
          refine q_VR8 S hI hK h [.int (nI j)] (c_X8_giveHeaps l L σ7 (by rw [hO9.r1]; exact hS3) hX2.I hj hL7 (Nat.le_trans l10 q3)) q_709 q_711 qs_25 q_10 q_712 yd_X8_giveHeaps rfl ⟨⟨rfl, rfl⟩, ⟨(Nat.le_of_ble_eq_true rfl), (Nat.le_of_ble_eq_true rfl)⟩, Nat.le_refl _, Nat.le_refl _⟩ rfl (Nat.le_of_ble_eq_true rfl) hl.1 dX8_join_87 (fun σ8 H locs hp9 h => ?_)
          obtain ⟨hS8, ho8⟩ := hp9
          rw [setD_i, setD_setD] at hS8
          have hc8 : MC σ8 (setD (setD X i (pkD X.1 (X.2.2 i))) j (toM X.1 (X.2.2 i) (X.2.2 j) 0)) (recH hh X) t := MC_q hc1 (show MS (σ8 1) (setD (setD X i (pkD X.1 (X.2.2 i))) j (toM X.1 (X.2.2 i) (X.2.2 j) 0)) from by show MS (σ8 1) (setD (setD X i (pkD X.1 (X.2.2 i))) j (_, _, (X.2.2 j).2.2.1 ++ (X.2.2 i).2.2.1.take 0, _)); rw [List.take_zero, List.append_nil]; exact hS8) (hO2.tr (hO3.tr (hO9.q.tr (Oq.of1 ho8))))
          refine lv_iconst (v := (nI 0)) hx hb dX8_join_90 (by decide) ?_
          refine lv_istore_n (lv' := [(3, .int (nI 0)), (0, .ref (ad L 0)), (1, .int (nI i)), (2, .int (nI j))]) hx hb dX8_join_91 rfl hl (by decide) rfl (fun ls hl => ?_)
          have LP_92 : ∀ (n_92 : Nat) (k : Nat) (σ9 : Me), (k ≤ (X.2.2 i).2.2.1.length) → (MC σ9 (setD (setD X i (pkD X.1 (X.2.2 i))) j (toM X.1 (X.2.2 i) (X.2.2 j) k)) (recH hh X) t) → (X.2.2 i).2.2.1.length - k < n_92 → ∀ (H : Heap) (locs : List Loc) (ls : Array Slot), Hd8 L s.heap H σ9 locs → lv_has ls 4 [(3, .int (nI k)), (2, .int (nI j)), (1, .int (nI i)), (0, .ref (ad L 0))] → W p l e rX8_join s m args below meth c H locs 0 0 (MQ below (Qg post (bs8 L) (Aw8 L)) args s 0 0 (Aw8 L)) (F0 m 92 ls []) := by
            intro n_92
            induction n_92 with
            | zero => intro k σ9; intros; omega
            | succ n_92 ih_92 =>
              intro k σ9 hk hcr hm_92 H locs ls h hl
              have hLX : LX (setD (setD X i (pkD X.1 (X.2.2 i))) j (toM X.1 (X.2.2 i) (X.2.2 j) k)) := LX_setD hX1.L (Nat.le_trans l10 q3) (Nat.zero_le _) (by show ((X.2.2 j).2.2.1 ++ (X.2.2 i).2.2.1.take k).length ≤ 200; rw [List.length_append, List.length_take]; omega)
              have hDi := hcr.1.2.2 i hi
              rw [setD_ij c_16] at hDi
              obtain ⟨o1, o2, o3, o4, o5, o6, o7⟩ := hDi
              refine lv_iload_n hx hb dX8_join_92 rfl (lv_at hl 0 rfl) ?_
              refine lv_aload_n hx hb dX8_join_93 rfl (lv_at hl 3 rfl) ?_
              refine lv_iload_n hx hb dX8_join_94 rfl (lv_at hl 2 rfl) ?_
              refine lv_iconst (v := (nI 2)) hx hb dX8_join_95 (by decide) ?_
              refine q_V18 S hI hK h [.int (nI i), .int (nI 2)] (c_X8_part l L σ9 (d := i) (q := 2) (by omega)) q_657 q_659 qs_13 q_10 q_660 yd_X8_part rfl ⟨⟨rfl, rfl⟩, ⟨(Nat.le_of_ble_eq_true rfl), (Nat.le_of_ble_eq_true rfl)⟩, Nat.le_refl _, Nat.le_refl _⟩ rfl (Nat.le_of_ble_eq_true rfl) hl.1 dX8_join_96 (fun H locs h => ?_)
              refine cv_i (show (σ9 1 (2 + 1024 * i + 2) : Int32) = nI ((X.2.2 i).2.2.1.length) from o3) ?_
              refine b_icmp_ge (tgt := 123) hx hb dX8_join_99 (by decide) (by omega) (by omega) (fun c_99 => ?_) (fun c_99 => ?_)
              · have e4 : k = (X.2.2 i).2.2.1.length := by omega
                refine lv_aload_n hx hb dX8_join_123 rfl (lv_at hl 3 rfl) ?_
                refine lv_iload_n hx hb dX8_join_124 rfl (lv_at hl 1 rfl) ?_
                refine q_V18 S hI hK h [.int (nI j)] (c_X8_weightOf l L σ9 (d := j) (by omega)) q_653 q_655 qs_12 q_10 q_656 yd_X8_weightOf rfl ⟨⟨rfl, rfl⟩, ⟨(Nat.le_of_ble_eq_true rfl), (Nat.le_of_ble_eq_true rfl)⟩, Nat.le_refl _, Nat.le_refl _⟩ rfl (Nat.le_of_ble_eq_true rfl) hl.1 dX8_join_125 (fun H locs h => ?_)
                refine cv_i (show (σ9 1 (2 + 1024 * j + 2) : Int32) = nI ((X.2.2 j).2.2.1.length + (X.2.2 i).2.2.1.length) from (by rw [(MS_D hcr.1 hj).2.2.1]; show nI ((X.2.2 j).2.2.1 ++ (X.2.2 i).2.2.1.take k).length = _; rw [e4, List.take_length, List.length_append])) ?_
                exact e_i8 S hK h hr hlk dX8_join_128 (hp _ _ ⟨rfl, by rw [← e4]; exact hcr⟩)
              · refine lv_aload_n hx hb dX8_join_102 rfl (lv_at hl 3 rfl) ?_
                refine lv_iload_n hx hb dX8_join_103 rfl (lv_at hl 1 rfl) ?_
                refine lv_aload_n hx hb dX8_join_104 rfl (lv_at hl 3 rfl) ?_
                refine lv_iload_n hx hb dX8_join_105 rfl (lv_at hl 2 rfl) ?_
                refine lv_sipush (v := (nI 824)) hx hb dX8_join_106 (by decide) ?_
                refine lv_iload_n hx hb dX8_join_109 rfl (lv_at hl 0 rfl) ?_
                refine a_iadd hx hb dX8_join_110 ?_
                refine q_V18 S hI hK h [.int (nI i), .int (nI (824 + k))] (c_X8_part l L σ9 (d := i) (q := 824 + k) (by omega)) q_657 q_659 qs_13 q_10 q_660 yd_X8_part rfl ⟨⟨rfl, rfl⟩, ⟨(Nat.le_of_ble_eq_true rfl), (Nat.le_of_ble_eq_true rfl)⟩, Nat.le_refl _, Nat.le_refl _⟩ rfl (Nat.le_of_ble_eq_true rfl) hl.1 dX8_join_111 (fun H locs h => ?_)
                refine cv_i (show (σ9 1 (2 + 1024 * i + (824 + k)) : Int32) = (X.2.2 i).2.2.1.getD k 0 from (o7 k c_99)) ?_
                refine q_VR8 S hI hK h [.int (nI j), .int ((X.2.2 i).2.2.1.getD k 0)] (c_X8_knows l L σ9 hcr.1 hLX hj (by rw [setD_i]; show ((X.2.2 j).2.2.1 ++ (X.2.2 i).2.2.1.take k).length < 200; rw [List.length_append, List.length_take]; omega) ((X.2.2 i).2.2.1.getD k 0)) q_717 q_719 qs_27 q_10 q_720 yd_X8_knows rfl ⟨⟨rfl, rfl⟩, ⟨(Nat.le_of_ble_eq_true rfl), (Nat.le_of_ble_eq_true rfl)⟩, Nat.le_refl _, Nat.le_refl _⟩ rfl (Nat.le_of_ble_eq_true rfl) hl.1 dX8_join_114 (fun σ10 H locs hp9 h => ?_)
                obtain ⟨hS10, ho10⟩ := hp9
                rw [setD_i, setD_setD] at hS10
                have hS10 : MS (σ10 1) (setD (setD X i (pkD X.1 (X.2.2 i))) j (toM X.1 (X.2.2 i) (X.2.2 j) (k + 1))) := by (have e9 : (X.2.2 j).2.2.1 ++ (X.2.2 i).2.2.1.take (k + 1) = ((X.2.2 j).2.2.1 ++ (X.2.2 i).2.2.1.take k) ++ [(X.2.2 i).2.2.1.getD k 0] := by rw [List.append_assoc, take_snoc (d := 0) c_99]); (show MS (σ10 1) (setD (setD X i (pkD X.1 (X.2.2 i))) j (_, _, (X.2.2 j).2.2.1 ++ (X.2.2 i).2.2.1.take (k + 1), _))); rw [e9]; exact hS10
                refine lv_iinc (v := (nI (k + 1))) (lv' := [(3, .int (nI (k + 1))), (2, .int (nI j)), (1, .int (nI i)), (0, .ref (ad L 0))]) hx hb dX8_join_117 hl (k := 0) rfl (iinc_1 _) (by decide) rfl (fun ls hl => ?_)
                refine lv_goto (tgt := 92) hx hb dX8_join_120 (by decide) ?_
                exact ih_92 (k + 1) σ10 (by omega) (MC_1 hcr hS10 ho10) (by omega) _ _ _ h (lv_sub hl [0, 1, 2, 3] rfl)
          exact LP_92 _ 0 σ8 (by omega) hc8 (Nat.lt_succ_self _) _ _ _ h (lv_sub hl [0, 3, 2, 1] rfl)
        · rw [if_pos c_36] at hp
          refine lv_ldc (v := (-1000003 : Int32)) hx hb S.2.2.2.1 (S.2.2.2.2 _ q_661) dX8_join_39 ?_
          exact e_i8 S hK h hr hlk dX8_join_41 (hp _ _ ⟨rfl, hc⟩)
      · rw [if_pos c_16] at hp
        refine lv_ldc (v := (-1000001 : Int32)) hx hb S.2.2.2.1 (S.2.2.2.2 _ q_652) dX8_join_19 ?_
        exact e_i8 S hK h hr hlk dX8_join_21 (hp _ _ ⟨rfl, hc⟩)

abbrev rX8_digestOf : Room := { frames := 4, cells := 0, slots := 0, locals := 88 }
theorem yd_X8_digestOf : ydV yX8_digestOf RX8 2 := ⟨rfl, by decide +kernel, by decide +kernel, by decide +kernel⟩
set_option maxHeartbeats 4000000 in
set_option maxRecDepth 100000 in
theorem c_X8_digestOf (l : Launch) (L : Lay) (σ : Me) {X : SS} {hh : List SS} {t : List Int32} (hc : MC σ X hh t) (hX : GX X) (hH : ∀ Y ∈ hh, GX Y) (x w : Int32) : Mg8 l L yX8_digestOf (Cond.code yX8_digestOf cX8_digestOf 4 (some FieldType.int) :: qA) rX8_digestOf [.ref (ad L 0), .int x, .int w] σ (fun r u => r = some (.int (mDig X x w)) ∧ MC u X hh t) := by
  refine Mr8_ofW (by decide) (Nat.le_of_ble_eq_true rfl) ?_
  intro p e s m args below meth c ls post hp hI S hr hlk hK h hl
  have hx := S.1
  have hb := S.2.1
  have hl : lv_has ls 4 [(0, .ref (ad L 0)), (1, .int x), (2, .int w)] := hl
  unfold mDig at hp
  refine lv_iload_n hx hb dX8_digestOf_0 rfl (lv_at hl 1 rfl) ?_
  refine q_S18 S hI hK h [.int x] (c_X8_isDigest l L σ x) q_646 q_647 q_10 q_648 yd_X8_isDigest rfl ⟨⟨rfl, rfl⟩, ⟨(Nat.le_of_ble_eq_true rfl), (Nat.le_of_ble_eq_true rfl)⟩, Nat.le_refl _, Nat.le_refl _⟩ rfl (Nat.le_of_ble_eq_true rfl) hl.1 dX8_digestOf_1 (fun H locs h => ?_)
  refine z_eq (tgt := 17) hx hb dX8_digestOf_4 (by decide) (fun c_4 => ?_) (fun c_4 => ?_)
  · rw [if_pos c_4] at hp
    refine lv_ldc (v := (-1000001 : Int32)) hx hb S.2.2.2.1 (S.2.2.2.2 _ q_652) dX8_digestOf_17 ?_
    exact e_i8 S hK h hr hlk dX8_digestOf_19 (hp _ _ ⟨rfl, hc⟩)
  · rw [if_neg (fun q => q c_4)] at hp
    obtain ⟨i, -, hi2, rfl⟩ := rng_nat (a := 0) (b := 2) (by omega) (by omega) c_4
    rw [nI_clamp (show i < 2 ^ 31 by omega)] at hp
    have hi : i < 3 := by omega
    have hGi := hX.1 i hi
    obtain ⟨m1, m2, m3, m4, m5, m6, m7⟩ := hc.1.2.2 i hi
    obtain ⟨la, lb, lc, ld⟩ := hGi.1
    refine lv_iload_n hx hb dX8_digestOf_7 rfl (lv_at hl 2 rfl) ?_
    refine lv_iconst (v := (nI 0)) hx hb dX8_digestOf_8 (by decide) ?_
    refine lv_bipush (v := (nI 8)) hx hb dX8_digestOf_9 (by decide) ?_
    refine q_S18 S hI hK h [.int w, .int (nI 0), .int (nI 8)] (c_X8_within l L σ w (nI 0) (nI 8)) q_649 q_650 q_10 q_651 yd_X8_within rfl ⟨⟨rfl, rfl⟩, ⟨(Nat.le_of_ble_eq_true rfl), (Nat.le_of_ble_eq_true rfl)⟩, Nat.le_refl _, Nat.le_refl _⟩ rfl (Nat.le_of_ble_eq_true rfl) hl.1 dX8_digestOf_11 (fun H locs h => ?_)
    refine z_ne (tgt := 20) hx hb dX8_digestOf_14 (by decide) (fun c_14 => ?_) (fun c_14 => ?_)
    · rw [if_neg (fun q => q c_14)] at hp
      obtain ⟨n, -, hn2, rfl⟩ := rng_nat (a := 0) (b := 8) (by omega) (by omega) c_14
      rw [nI_clamp (show n < 2 ^ 31 by omega)] at hp
      refine lv_aload_n hx hb dX8_digestOf_20 rfl (lv_at hl 0 rfl) ?_
      refine lv_iload_n hx hb dX8_digestOf_21 rfl (lv_at hl 1 rfl) ?_
      refine q_V18 S hI hK h [.int (nI i)] (c_X8_weightOf l L σ (d := i) (by omega)) q_653 q_655 qs_12 q_10 q_656 yd_X8_weightOf rfl ⟨⟨rfl, rfl⟩, ⟨(Nat.le_of_ble_eq_true rfl), (Nat.le_of_ble_eq_true rfl)⟩, Nat.le_refl _, Nat.le_refl _⟩ rfl (Nat.le_of_ble_eq_true rfl) hl.1 dX8_digestOf_22 (fun H locs h => ?_)
      refine cv_i (show (σ 1 (2 + 1024 * i + 2) : Int32) = nI ((X.2.2 i).2.2.1.length) from m3) ?_
      refine lv_istore_n (lv' := [(3, .int (nI ((X.2.2 i).2.2.1.length))), (0, .ref (ad L 0)), (1, .int (nI i)), (2, .int (nI n))]) hx hb dX8_digestOf_25 rfl hl (by decide) rfl (fun ls hl => ?_)
      refine lv_aload_n hx hb dX8_digestOf_26 rfl (lv_at hl 1 rfl) ?_
      refine lv_iload_n hx hb dX8_digestOf_27 rfl (lv_at hl 2 rfl) ?_
      refine q_VR8 S hI hK h [.int (nI i)] (c_X8_putValuesInOrder l L σ hc.1 hi lb) q_759 q_761 qs_29 q_10 q_762 yd_X8_putValuesInOrder rfl ⟨⟨rfl, rfl⟩, ⟨(Nat.le_of_ble_eq_true rfl), (Nat.le_of_ble_eq_true rfl)⟩, Nat.le_refl _, Nat.le_refl _⟩ rfl (Nat.le_of_ble_eq_true rfl) hl.1 dX8_digestOf_28 (fun σ1 H locs hp9 h => ?_)
      obtain ⟨hOV, ho1⟩ := hp9
      have hc1 := MC_8 hc ho1
      have r1 := ho1 1 (by omega)
      have hsl := srt_len (V := (X.2.2 i).2.2.1)
      refine lv_iload_n hx hb dX8_digestOf_31 rfl (lv_at hl 3 rfl) ?_
      rcases (show n = 0 ∨ n = 1 ∨ n = 2 ∨ n = 3 ∨ n = 4 ∨ n = 5 ∨ n = 6 ∨ n = 7 ∨ n = 8 by omega) with rfl | rfl | rfl | rfl | rfl | rfl | rfl | rfl | rfl
      · refine lv_tableIn (tgt := 80) hx hb dX8_digestOf_32 (by decide) (by decide) rfl (by decide) ?_
        refine lv_iload_n hx hb dX8_digestOf_80 rfl (lv_at hl 0 rfl) ?_
        exact e_i8 S hK h hr hlk dX8_digestOf_81 (hp _ _ ⟨rfl, hc1⟩)
      · refine lv_tableIn (tgt := 82) hx hb dX8_digestOf_32 (by decide) (by decide) rfl (by decide) ?_
        refine lv_aload_n hx hb dX8_digestOf_82 rfl (lv_at hl 1 rfl) ?_
        refine lv_iload_n hx hb dX8_digestOf_83 rfl (lv_at hl 2 rfl) ?_
        refine lv_iconst (v := (nI 0)) hx hb dX8_digestOf_84 (by decide) ?_
        refine q_V18 S hI hK h [.int (nI i), .int (nI 0)] (c_X8_part l L σ1 (d := i) (q := 0) (by omega)) q_657 q_659 qs_13 q_10 q_660 yd_X8_part rfl ⟨⟨rfl, rfl⟩, ⟨(Nat.le_of_ble_eq_true rfl), (Nat.le_of_ble_eq_true rfl)⟩, Nat.le_refl _, Nat.le_refl _⟩ rfl (Nat.le_of_ble_eq_true rfl) hl.1 dX8_digestOf_85 (fun H locs h => ?_)
        refine cv_i (show (σ1 1 (2 + 1024 * i + 0) : Int32) = nI ((X.2.2 i).1.length) from (by rw [r1]; exact m1)) ?_
        exact e_i8 S hK h hr hlk dX8_digestOf_88 (hp _ _ ⟨rfl, hc1⟩)
      · refine lv_tableIn (tgt := 89) hx hb dX8_digestOf_32 (by decide) (by decide) rfl (by decide) ?_
        refine lv_aload_n hx hb dX8_digestOf_89 rfl (lv_at hl 1 rfl) ?_
        refine lv_iload_n hx hb dX8_digestOf_90 rfl (lv_at hl 2 rfl) ?_
        refine lv_iconst (v := (nI 1)) hx hb dX8_digestOf_91 (by decide) ?_
        refine q_V18 S hI hK h [.int (nI i), .int (nI 1)] (c_X8_part l L σ1 (d := i) (q := 1) (by omega)) q_657 q_659 qs_13 q_10 q_660 yd_X8_part rfl ⟨⟨rfl, rfl⟩, ⟨(Nat.le_of_ble_eq_true rfl), (Nat.le_of_ble_eq_true rfl)⟩, Nat.le_refl _, Nat.le_refl _⟩ rfl (Nat.le_of_ble_eq_true rfl) hl.1 dX8_digestOf_92 (fun H locs h => ?_)
        refine cv_i (show (σ1 1 (2 + 1024 * i + 1) : Int32) = nI ((X.2.2 i).2.1.length) from (by rw [r1]; exact m2)) ?_
        exact e_i8 S hK h hr hlk dX8_digestOf_95 (hp _ _ ⟨rfl, hc1⟩)
      · refine lv_tableIn (tgt := 96) hx hb dX8_digestOf_32 (by decide) (by decide) rfl (by decide) ?_
        refine lv_iload_n hx hb dX8_digestOf_96 rfl (lv_at hl 0 rfl) ?_
        refine b_if_ne (tgt := 105) hx hb dX8_digestOf_97 (by decide) (by omega) (fun c_97 => ?_) (fun c_97 => ?_)
        · rw [mdOf, if_neg (Nat.ne_of_gt c_97)] at hp
          refine lv_aload_n hx hb dX8_digestOf_105 rfl (lv_at hl 1 rfl) ?_
          refine g8 (v := (.ref (ad L 8))) S hK h 10 (by decide) rfl rfl q_606 dX8_digestOf_106 ?_
          refine lv_iconst (v := (nI 0)) hx hb dX8_digestOf_109 (by decide) ?_
          refine g8_el (n := 200) S hK h (by decide) rfl (by omega) dX8_digestOf_110 ?_
          exact e_i8 S hK h hr hlk dX8_digestOf_111 (hp _ _ ⟨(by first | rfl | exact congrArg (fun z => some (Value.int z)) (hOV 0 (by rw [hsl]; omega))), hc1⟩)
        · rw [mdOf, if_pos c_97] at hp
          refine lv_ldc (v := (-1000004 : Int32)) hx hb S.2.2.2.1 (S.2.2.2.2 _ q_741) dX8_digestOf_100 ?_
          refine lv_goto (tgt := 111) hx hb dX8_digestOf_102 (by decide) ?_
          exact e_i8 S hK h hr hlk dX8_digestOf_111 (hp _ _ ⟨(by first | rfl | exact congrArg (fun z => some (Value.int z)) (hOV 0 (by rw [hsl]; omega))), hc1⟩)
      · refine lv_tableIn (tgt := 112) hx hb dX8_digestOf_32 (by decide) (by decide) rfl (by decide) ?_
        refine lv_iload_n hx hb dX8_digestOf_112 rfl (lv_at hl 0 rfl) ?_
        refine b_if_ne (tgt := 121) hx hb dX8_digestOf_113 (by decide) (by omega) (fun c_113 => ?_) (fun c_113 => ?_)
        · rw [mdOf, if_neg (Nat.ne_of_gt c_113)] at hp
          refine lv_aload_n hx hb dX8_digestOf_121 rfl (lv_at hl 1 rfl) ?_
          refine g8 (v := (.ref (ad L 8))) S hK h 10 (by decide) rfl rfl q_606 dX8_digestOf_122 ?_
          refine lv_iload_n hx hb dX8_digestOf_125 rfl (lv_at hl 0 rfl) ?_
          refine lv_iconst (v := (nI 1)) hx hb dX8_digestOf_126 (by decide) ?_
          refine a_isub hx hb dX8_digestOf_127 (by omega) ?_
          refine g8_el (n := 200) S hK h (by decide) rfl (by omega) dX8_digestOf_128 ?_
          exact e_i8 S hK h hr hlk dX8_digestOf_129 (hp _ _ ⟨(by first | rfl | exact congrArg (fun z => some (Value.int z)) (hOV _ (by rw [hsl]; omega))), hc1⟩)
        · rw [mdOf, if_pos c_113] at hp
          refine lv_ldc (v := (-1000004 : Int32)) hx hb S.2.2.2.1 (S.2.2.2.2 _ q_741) dX8_digestOf_116 ?_
          refine lv_goto (tgt := 129) hx hb dX8_digestOf_118 (by decide) ?_
          exact e_i8 S hK h hr hlk dX8_digestOf_129 (hp _ _ ⟨(by first | rfl | exact congrArg (fun z => some (Value.int z)) (hOV _ (by rw [hsl]; omega))), hc1⟩)
      · refine lv_tableIn (tgt := 130) hx hb dX8_digestOf_32 (by decide) (by decide) rfl (by decide) ?_
        refine lv_aload_n hx hb dX8_digestOf_130 rfl (lv_at hl 1 rfl) ?_
        refine lv_iload_n hx hb dX8_digestOf_131 rfl (lv_at hl 2 rfl) ?_
        refine q_V18 S hI hK h [.int (nI i)] (c_X8_sumOf l L σ1 (by rw [r1]; exact hc.1) hi lb) q_763 q_765 qs_30 q_10 q_766 yd_X8_sumOf rfl ⟨⟨rfl, rfl⟩, ⟨(Nat.le_of_ble_eq_true rfl), (Nat.le_of_ble_eq_true rfl)⟩, Nat.le_refl _, Nat.le_refl _⟩ rfl (Nat.le_of_ble_eq_true rfl) hl.1 dX8_digestOf_132 (fun H locs h => ?_)
        exact e_i8 S hK h hr hlk dX8_digestOf_135 (hp _ _ ⟨rfl, hc1⟩)
      · refine lv_tableIn (tgt := 136) hx hb dX8_digestOf_32 (by decide) (by decide) rfl (by decide) ?_
        refine lv_aload_n hx hb dX8_digestOf_136 rfl (lv_at hl 1 rfl) ?_
        refine lv_iload_n hx hb dX8_digestOf_137 rfl (lv_at hl 2 rfl) ?_
        refine q_VR8 S hI hK h [.int (nI i)] (c_X8_findPacked l L σ1 (by rw [r1]; exact hc.1) hX.I hi (GD_all hGi).1) q_677 q_679 qs_17 q_10 q_680 yd_X8_findPacked rfl ⟨⟨rfl, rfl⟩, ⟨(Nat.le_of_ble_eq_true rfl), (Nat.le_of_ble_eq_true rfl)⟩, Nat.le_refl _, Nat.le_refl _⟩ rfl (Nat.le_of_ble_eq_true rfl) hl.1 dX8_digestOf_138 (fun σ2 H locs hp9 h => ?_)
        obtain ⟨hL2, hO2⟩ := hp9
        refine lv_aload_n hx hb dX8_digestOf_141 rfl (lv_at hl 1 rfl) ?_
        refine g8 (v := (.int (σ2 0 2))) S hK h 9 (by decide) rfl rfl q_605 dX8_digestOf_142 ?_
        refine cv_i (show (σ2 0 2 : Int32) = nI ((trL X i).length) from hL2.1) ?_
        exact e_i8 S hK h hr hlk dX8_digestOf_145 (hp _ _ ⟨rfl, MC_t hc1 hO2⟩)
      · refine lv_tableIn (tgt := 146) hx hb dX8_digestOf_32 (by decide) (by decide) rfl (by decide) ?_
        refine lv_aload_n hx hb dX8_digestOf_146 rfl (lv_at hl 1 rfl) ?_
        refine lv_iload_n hx hb dX8_digestOf_147 rfl (lv_at hl 2 rfl) ?_
        refine q_V18 S hI hK h [.int (nI i)] (c_X8_greatestWeight l L σ1 (by rw [r1]; exact hc.1) hi (by omega)) q_767 q_769 qs_31 q_10 q_770 yd_X8_greatestWeight rfl ⟨⟨rfl, rfl⟩, ⟨(Nat.le_of_ble_eq_true rfl), (Nat.le_of_ble_eq_true rfl)⟩, Nat.le_refl _, Nat.le_refl _⟩ rfl (Nat.le_of_ble_eq_true rfl) hl.1 dX8_digestOf_148 (fun H locs h => ?_)
        exact e_i8 S hK h hr hlk dX8_digestOf_151 (hp _ _ ⟨rfl, hc1⟩)
      · refine lv_tableOut (tgt := 152) hx hb dX8_digestOf_32 (Or.inr (by decide)) (by decide) ?_
        refine lv_aload_n hx hb dX8_digestOf_152 rfl (lv_at hl 1 rfl) ?_
        refine lv_iload_n hx hb dX8_digestOf_153 rfl (lv_at hl 2 rfl) ?_
        refine lv_iconst (v := (nI 3)) hx hb dX8_digestOf_154 (by decide) ?_
        refine q_V18 S hI hK h [.int (nI i), .int (nI 3)] (c_X8_part l L σ1 (d := i) (q := 3) (by omega)) q_657 q_659 qs_13 q_10 q_660 yd_X8_part rfl ⟨⟨rfl, rfl⟩, ⟨(Nat.le_of_ble_eq_true rfl), (Nat.le_of_ble_eq_true rfl)⟩, Nat.le_refl _, Nat.le_refl _⟩ rfl (Nat.le_of_ble_eq_true rfl) hl.1 dX8_digestOf_155 (fun H locs h => ?_)
        refine cv_i (show (σ1 1 (2 + 1024 * i + 3) : Int32) = (X.2.2 i).2.2.2 from (by rw [r1]; exact m4)) ?_
        exact e_i8 S hK h hr hlk dX8_digestOf_158 (hp _ _ ⟨rfl, hc1⟩)
    · rw [if_pos c_14] at hp
      refine lv_ldc (v := (-1000001 : Int32)) hx hb S.2.2.2.1 (S.2.2.2.2 _ q_652) dX8_digestOf_17 ?_
      exact e_i8 S hK h hr hlk dX8_digestOf_19 (hp _ _ ⟨rfl, hc⟩)

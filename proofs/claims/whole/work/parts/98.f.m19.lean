abbrev rX8_heapOf : Room := { frames := 3, cells := 0, slots := 0, locals := 69 }
theorem yd_X8_heapOf : ydV yX8_heapOf RX8 3 := ⟨rfl, by decide +kernel, by decide +kernel, by decide +kernel⟩
set_option maxHeartbeats 4000000 in
set_option maxRecDepth 100000 in
theorem c_X8_heapOf (l : Launch) (L : Lay) (σ : Me) {X : SS} {hh : List SS} {t : List Int32} (hc : MC σ X hh t) (hX : GX X) (hH : ∀ Y ∈ hh, GX Y) (x y w : Int32) : Mg8 l L yX8_heapOf (Cond.code yX8_heapOf cX8_heapOf 6 (some FieldType.int) :: qA) rX8_heapOf [.ref (ad L 0), .int x, .int y, .int w] σ (fun r u => r = some (.int (mHo X x y w)) ∧ MC u X hh t) := by
  refine Mr8_ofW (by decide) (Nat.le_of_ble_eq_true rfl) ?_
  intro p e s m args below meth c ls post hp hI S hr hlk hK h hl
  have hx := S.1
  have hb := S.2.1
  have hl : lv_has ls 6 [(0, .ref (ad L 0)), (1, .int x), (2, .int y), (3, .int w)] := hl
  unfold mHo at hp
  refine lv_iload_n hx hb dX8_heapOf_0 rfl (lv_at hl 1 rfl) ?_
  refine q_S18 S hI hK h [.int x] (c_X8_isDigest l L σ x) q_646 q_647 q_10 q_648 yd_X8_isDigest rfl ⟨⟨rfl, rfl⟩, ⟨(Nat.le_of_ble_eq_true rfl), (Nat.le_of_ble_eq_true rfl)⟩, Nat.le_refl _, Nat.le_refl _⟩ rfl (Nat.le_of_ble_eq_true rfl) hl.1 dX8_heapOf_1 (fun H locs h => ?_)
  refine z_eq (tgt := 21) hx hb dX8_heapOf_4 (by decide) (fun c_4 => ?_) (fun c_4 => ?_)
  · rw [if_pos c_4] at hp
    refine lv_ldc (v := (-1000001 : Int32)) hx hb S.2.2.2.1 (S.2.2.2.2 _ q_652) dX8_heapOf_21 ?_
    exact e_i8 S hK h hr hlk dX8_heapOf_23 (hp _ _ ⟨rfl, hc⟩)
  · rw [if_neg (fun q => q c_4)] at hp
    obtain ⟨i, -, hi2, rfl⟩ := rng_nat (a := 0) (b := 2) (by omega) (by omega) c_4
    rw [nI_clamp (show i < 2 ^ 31 by omega)] at hp
    have hi : i < 3 := by omega
    have hGi := hX.1 i hi
    obtain ⟨m1, m2, m3, m4, m5, m6, m7⟩ := hc.1.2.2 i hi
    obtain ⟨la, lb, lc, ld⟩ := hGi.1
    unfold cHo at hp
    refine lv_iload_n hx hb dX8_heapOf_7 rfl (lv_at hl 2 rfl) ?_
    refine lv_if_lt (tgt := 21) hx hb dX8_heapOf_8 (by decide) (fun c_8 => ?_) (fun c_8 => ?_)
    · rw [if_pos c_8] at hp
      refine lv_ldc (v := (-1000001 : Int32)) hx hb S.2.2.2.1 (S.2.2.2.2 _ q_652) dX8_heapOf_21 ?_
      exact e_i8 S hK h hr hlk dX8_heapOf_23 (hp _ _ ⟨rfl, hc⟩)
    · rw [if_neg c_8] at hp
      obtain ⟨n, hn, rfl⟩ := pos_nat c_8
      rw [nI_clamp hn] at hp
      refine lv_iload_n hx hb dX8_heapOf_11 rfl (lv_at hl 3 rfl) ?_
      refine lv_iconst (v := (nI 0)) hx hb dX8_heapOf_12 (by decide) ?_
      refine lv_bipush (v := (nI 6)) hx hb dX8_heapOf_13 (by decide) ?_
      refine q_S18 S hI hK h [.int w, .int (nI 0), .int (nI 6)] (c_X8_within l L σ w (nI 0) (nI 6)) q_649 q_650 q_10 q_651 yd_X8_within rfl ⟨⟨rfl, rfl⟩, ⟨(Nat.le_of_ble_eq_true rfl), (Nat.le_of_ble_eq_true rfl)⟩, Nat.le_refl _, Nat.le_refl _⟩ rfl (Nat.le_of_ble_eq_true rfl) hl.1 dX8_heapOf_15 (fun H locs h => ?_)
      refine z_ne (tgt := 24) hx hb dX8_heapOf_18 (by decide) (fun c_18 => ?_) (fun c_18 => ?_)
      · rw [if_neg (fun q => q c_18)] at hp
        obtain ⟨m9, -, hm2, rfl⟩ := rng_nat (a := 0) (b := 6) (by omega) (by omega) c_18
        rw [nI_clamp (show m9 < 2 ^ 31 by omega)] at hp
        refine lv_iload_n hx hb dX8_heapOf_24 rfl (lv_at hl 2 rfl) ?_
        refine lv_aload_n hx hb dX8_heapOf_25 rfl (lv_at hl 0 rfl) ?_
        refine lv_iload_n hx hb dX8_heapOf_26 rfl (lv_at hl 1 rfl) ?_
        refine lv_iconst (v := (nI 0)) hx hb dX8_heapOf_27 (by decide) ?_
        refine q_V18 S hI hK h [.int (nI i), .int (nI 0)] (c_X8_part l L σ (d := i) (q := 0) (by omega)) q_657 q_659 qs_13 q_10 q_660 yd_X8_part rfl ⟨⟨rfl, rfl⟩, ⟨(Nat.le_of_ble_eq_true rfl), (Nat.le_of_ble_eq_true rfl)⟩, Nat.le_refl _, Nat.le_refl _⟩ rfl (Nat.le_of_ble_eq_true rfl) hl.1 dX8_heapOf_28 (fun H locs h => ?_)
        refine cv_i (show (σ 1 (2 + 1024 * i + 0) : Int32) = nI ((X.2.2 i).1.length) from m1) ?_
        refine b_icmp_lt (tgt := 37) hx hb dX8_heapOf_31 (by decide) (by omega) (by omega) (fun c_31 => ?_) (fun c_31 => ?_)
        · rw [if_neg (fun q => absurd ((nI_leI (by omega) (by omega)).mp q) (by omega))] at hp
          have hgn := hGi.2.1 _ (mem_getD (d := hd0) c_31)
          obtain ⟨w1, w2, w3⟩ := wN_GH hgn
          obtain ⟨s1, s2⟩ := sN_GH hgn
          have m5n := m5 n c_31
          refine lv_aload_n hx hb dX8_heapOf_37 rfl (lv_at hl 0 rfl) ?_
          refine lv_iload_n hx hb dX8_heapOf_38 rfl (lv_at hl 1 rfl) ?_
          refine lv_iload_n hx hb dX8_heapOf_39 rfl (lv_at hl 2 rfl) ?_
          refine lv_iconst (v := (nI 0)) hx hb dX8_heapOf_40 (by decide) ?_
          refine q_V18 S hI hK h [.int (nI i), .int (nI n), .int (nI 0)] (c_X8_heapPart l L σ (d := i) (j := n) (q := 0) (by omega)) q_685 q_687 qs_19 q_10 q_688 yd_X8_heapPart rfl ⟨⟨rfl, rfl⟩, ⟨(Nat.le_of_ble_eq_true rfl), (Nat.le_of_ble_eq_true rfl)⟩, Nat.le_refl _, Nat.le_refl _⟩ rfl (Nat.le_of_ble_eq_true rfl) hl.1 dX8_heapOf_41 (fun H locs h => ?_)
          refine cv_i (show (σ 1 (2 + 1024 * i + (4 + 4 * n + 0)) : Int32) = nI (wN ((X.2.2 i).1.getD n hd0)) from ((hoV_4 m5n (m := 0) (by omega)).trans w1)) ?_
          refine lv_istore (lv' := [(4, .int (nI (wN ((X.2.2 i).1.getD n hd0)))), (0, .ref (ad L 0)), (1, .int (nI i)), (2, .int (nI n)), (3, .int (nI m9))]) hx hb dX8_heapOf_44 hl (by decide) rfl (fun ls hl => ?_)
          refine lv_aload_n hx hb dX8_heapOf_46 rfl (lv_at hl 1 rfl) ?_
          refine lv_iload_n hx hb dX8_heapOf_47 rfl (lv_at hl 2 rfl) ?_
          refine lv_iload_n hx hb dX8_heapOf_48 rfl (lv_at hl 3 rfl) ?_
          refine lv_iconst (v := (nI 1)) hx hb dX8_heapOf_49 (by decide) ?_
          refine q_V18 S hI hK h [.int (nI i), .int (nI n), .int (nI 1)] (c_X8_heapPart l L σ (d := i) (j := n) (q := 1) (by omega)) q_685 q_687 qs_19 q_10 q_688 yd_X8_heapPart rfl ⟨⟨rfl, rfl⟩, ⟨(Nat.le_of_ble_eq_true rfl), (Nat.le_of_ble_eq_true rfl)⟩, Nat.le_refl _, Nat.le_refl _⟩ rfl (Nat.le_of_ble_eq_true rfl) hl.1 dX8_heapOf_50 (fun H locs h => ?_)
          refine cv_i (show (σ 1 (2 + 1024 * i + (4 + 4 * n + 1)) : Int32) = nI (sN ((X.2.2 i).1.getD n hd0)) from ((hoV_4 m5n (m := 1) (by omega)).trans s1)) ?_
          refine lv_istore (lv' := [(5, .int (nI (sN ((X.2.2 i).1.getD n hd0)))), (4, .int (nI (wN ((X.2.2 i).1.getD n hd0)))), (0, .ref (ad L 0)), (1, .int (nI i)), (2, .int (nI n)), (3, .int (nI m9))]) hx hb dX8_heapOf_53 hl (by decide) rfl (fun ls hl => ?_)
          refine lv_iload_n hx hb dX8_heapOf_55 rfl (lv_at hl 5 rfl) ?_
          refine lv_iconst (v := (nI 4)) hx hb dX8_heapOf_56 (by decide) ?_
          refine b_icmp_ge (tgt := 70) hx hb dX8_heapOf_57 (by decide) (by omega) (by omega) (fun c_57 => ?_) (fun c_57 => ?_)
          · refine lv_iload_n hx hb dX8_heapOf_70 rfl (lv_at hl 5 rfl) ?_
            refine lv_iconst (v := (nI 4)) hx hb dX8_heapOf_71 (by decide) ?_
            refine b_icmp_ne (tgt := 83) hx hb dX8_heapOf_72 (by decide) (by omega) (by omega) (fun c_72 => ?_) (fun c_72 => ?_)
            · refine lv_iload_n hx hb dX8_heapOf_83 rfl (lv_at hl 5 rfl) ?_
              refine lv_iconst (v := (nI 5)) hx hb dX8_heapOf_84 (by decide) ?_
              refine b_icmp_ne (tgt := 97) hx hb dX8_heapOf_85 (by decide) (by omega) (by omega) (fun c_85 => ?_) (fun c_85 => ?_)
              · obtain rfl : m9 = 6 := by omega
                have hv : flI (sN ((X.2.2 i).1.getD n hd0)) (wN ((X.2.2 i).1.getD n hd0)) = hoV (X.2.2 i).1 n 6 := rfl
                refine lv_iload hx hb dX8_heapOf_97 (lv_at hl 0 rfl) ?_
                refine lv_iload hx hb dX8_heapOf_99 (lv_at hl 1 rfl) ?_
                refine q_S18 S hI hK h [.int (nI (sN ((X.2.2 i).1.getD n hd0))), .int (nI (wN ((X.2.2 i).1.getD n hd0)))] (c_X8_floatBits l L σ (by omega) (by omega) (by omega)) q_746 q_747 q_10 q_748 yd_X8_floatBits rfl ⟨⟨rfl, rfl⟩, ⟨(Nat.le_of_ble_eq_true rfl), (Nat.le_of_ble_eq_true rfl)⟩, Nat.le_refl _, Nat.le_refl _⟩ rfl (Nat.le_of_ble_eq_true rfl) hl.1 dX8_heapOf_101 (fun H locs h => ?_)
                exact e_i8 S hK h hr hlk dX8_heapOf_104 (hp _ _ ⟨congrArg (fun z => some (Value.int z)) hv, hc⟩)
              · subst c_85
                have hv : isum ((X.2.2 i).1.map h_w) n = hoV (X.2.2 i).1 n 5 := rfl
                refine lv_aload_n hx hb dX8_heapOf_88 rfl (lv_at hl 2 rfl) ?_
                refine lv_iload_n hx hb dX8_heapOf_89 rfl (lv_at hl 3 rfl) ?_
                refine lv_iload_n hx hb dX8_heapOf_90 rfl (lv_at hl 4 rfl) ?_
                refine q_V18 S hI hK h [.int (nI i), .int (nI n)] (c_X8_aheadOf l L σ hc.1 hi (by omega) (by omega)) q_742 q_744 qs_28 q_10 q_745 yd_X8_aheadOf rfl ⟨⟨rfl, rfl⟩, ⟨(Nat.le_of_ble_eq_true rfl), (Nat.le_of_ble_eq_true rfl)⟩, Nat.le_refl _, Nat.le_refl _⟩ rfl (Nat.le_of_ble_eq_true rfl) hl.1 dX8_heapOf_91 (fun H locs h => ?_)
                refine lv_goto (tgt := 104) hx hb dX8_heapOf_94 (by decide) ?_
                exact e_i8 S hK h hr hlk dX8_heapOf_104 (hp _ _ ⟨congrArg (fun z => some (Value.int z)) hv, hc⟩)
            · subst c_72
              have hv : nI (sN ((X.2.2 i).1.getD n hd0) / wN ((X.2.2 i).1.getD n hd0)) = hoV (X.2.2 i).1 n 4 := hoV_d hgn
              refine lv_iload hx hb dX8_heapOf_75 (lv_at hl 0 rfl) ?_
              refine lv_iload hx hb dX8_heapOf_77 (lv_at hl 1 rfl) ?_
              refine a_idiv hx hb dX8_heapOf_79 (by omega) (by omega) (by omega) ?_
              refine lv_goto (tgt := 104) hx hb dX8_heapOf_80 (by decide) ?_
              exact e_i8 S hK h hr hlk dX8_heapOf_104 (hp _ _ ⟨congrArg (fun z => some (Value.int z)) hv, hc⟩)
          · have hv : σ 1 (2 + 1024 * i + (4 + 4 * n + m9)) = hoV (X.2.2 i).1 n m9 := hoV_4 m5n c_57
            refine lv_aload_n hx hb dX8_heapOf_60 rfl (lv_at hl 2 rfl) ?_
            refine lv_iload_n hx hb dX8_heapOf_61 rfl (lv_at hl 3 rfl) ?_
            refine lv_iload_n hx hb dX8_heapOf_62 rfl (lv_at hl 4 rfl) ?_
            refine lv_iload_n hx hb dX8_heapOf_63 rfl (lv_at hl 5 rfl) ?_
            refine q_V18 S hI hK h [.int (nI i), .int (nI n), .int (nI m9)] (c_X8_heapPart l L σ (d := i) (j := n) (q := m9) (by omega)) q_685 q_687 qs_19 q_10 q_688 yd_X8_heapPart rfl ⟨⟨rfl, rfl⟩, ⟨(Nat.le_of_ble_eq_true rfl), (Nat.le_of_ble_eq_true rfl)⟩, Nat.le_refl _, Nat.le_refl _⟩ rfl (Nat.le_of_ble_eq_true rfl) hl.1 dX8_heapOf_64 (fun H locs h => ?_)
            refine lv_goto (tgt := 104) hx hb dX8_heapOf_67 (by decide) ?_
            exact e_i8 S hK h hr hlk dX8_heapOf_104 (hp _ _ ⟨congrArg (fun z => some (Value.int z)) hv, hc⟩)
        · rw [if_pos ((nI_leI (by omega) (by omega)).mpr (by omega))] at hp
          refine lv_ldc (v := (-1000004 : Int32)) hx hb S.2.2.2.1 (S.2.2.2.2 _ q_741) dX8_heapOf_34 ?_
          exact e_i8 S hK h hr hlk dX8_heapOf_36 (hp _ _ ⟨rfl, hc⟩)
      · rw [if_pos c_18] at hp
        refine lv_ldc (v := (-1000001 : Int32)) hx hb S.2.2.2.1 (S.2.2.2.2 _ q_652) dX8_heapOf_21 ?_
        exact e_i8 S hK h hr hlk dX8_heapOf_23 (hp _ _ ⟨rfl, hc⟩)
